section
-- ===== PART A: goes FIRST, ahead of the names: the tables' words, and 'selects' of the private methods out of them =====
/-- a private method of a class that the tables say can be made, by its rows of tables_1 -/
def lw_okq (q : MethodName × Nat) : Prop := (q.1.cls ≠ "java/lang/invoke/MethodHandle" ∧ q.1.cls ≠ "java/lang/invoke/VarHandle") ∧ Cond.instantiable q.1.cls q.2 ∈ tables_1 ∧ Cond.privateMethod q.1 ∈ tables_1 ∧ Cond.instanceMethod q.1 ∈ tables_1
theorem lw_p0 : lw_okq (⟨"SpoonHates$Reader", "readLine", "(I)Z"⟩, 8) := ⟨⟨by decide +kernel, by decide +kernel⟩, List.mem_of_getElem? (i := 173) (by decide +kernel), List.mem_of_getElem? (i := 381) (by decide +kernel), List.mem_of_getElem? (i := 382) (by decide +kernel)⟩
theorem lw_p1 : lw_okq (⟨"SpoonHates$Reader", "fails", "(I)Z"⟩, 8) := ⟨⟨by decide +kernel, by decide +kernel⟩, List.mem_of_getElem? (i := 173) (by decide +kernel), List.mem_of_getElem? (i := 385) (by decide +kernel), List.mem_of_getElem? (i := 386) (by decide +kernel)⟩
theorem lw_p2 : lw_okq (⟨"SpoonHates$Reader", "lineOfName", "()I"⟩, 8) := ⟨⟨by decide +kernel, by decide +kernel⟩, List.mem_of_getElem? (i := 173) (by decide +kernel), List.mem_of_getElem? (i := 389) (by decide +kernel), List.mem_of_getElem? (i := 390) (by decide +kernel)⟩
theorem lw_p3 : lw_okq (⟨"SpoonHates$Reader", "readHatred", "(Z)Z"⟩, 8) := ⟨⟨by decide +kernel, by decide +kernel⟩, List.mem_of_getElem? (i := 173) (by decide +kernel), List.mem_of_getElem? (i := 454) (by decide +kernel), List.mem_of_getElem? (i := 455) (by decide +kernel)⟩
theorem lw_p4 : lw_okq (⟨"SpoonHates$Reader", "readHelper", "(I)I"⟩, 8) := ⟨⟨by decide +kernel, by decide +kernel⟩, List.mem_of_getElem? (i := 173) (by decide +kernel), List.mem_of_getElem? (i := 458) (by decide +kernel), List.mem_of_getElem? (i := 459) (by decide +kernel)⟩
theorem lw_p5 : lw_okq (⟨"SpoonHates$Reader", "readNumber", "(II)I"⟩, 8) := ⟨⟨by decide +kernel, by decide +kernel⟩, List.mem_of_getElem? (i := 173) (by decide +kernel), List.mem_of_getElem? (i := 462) (by decide +kernel), List.mem_of_getElem? (i := 463) (by decide +kernel)⟩
theorem lw_p6 : lw_okq (⟨"SpoonHates$Reader", "readSemicolon", "()Z"⟩, 8) := ⟨⟨by decide +kernel, by decide +kernel⟩, List.mem_of_getElem? (i := 173) (by decide +kernel), List.mem_of_getElem? (i := 477) (by decide +kernel), List.mem_of_getElem? (i := 478) (by decide +kernel)⟩
theorem lw_p7 : lw_okq (⟨"SpoonHates$Reader", "readPot", "()Z"⟩, 8) := ⟨⟨by decide +kernel, by decide +kernel⟩, List.mem_of_getElem? (i := 173) (by decide +kernel), List.mem_of_getElem? (i := 481) (by decide +kernel), List.mem_of_getElem? (i := 482) (by decide +kernel)⟩
theorem lw_p8 : lw_okq (⟨"SpoonHates$Reader", "readSlip", "()Z"⟩, 8) := ⟨⟨by decide +kernel, by decide +kernel⟩, List.mem_of_getElem? (i := 173) (by decide +kernel), List.mem_of_getElem? (i := 485) (by decide +kernel), List.mem_of_getElem? (i := 486) (by decide +kernel)⟩
theorem lw_p9 : lw_okq (⟨"SpoonHates$Reader", "readPlan", "()Z"⟩, 8) := ⟨⟨by decide +kernel, by decide +kernel⟩, List.mem_of_getElem? (i := 173) (by decide +kernel), List.mem_of_getElem? (i := 497) (by decide +kernel), List.mem_of_getElem? (i := 498) (by decide +kernel)⟩
theorem lw_p10 : lw_okq (⟨"SpoonHates$Reader", "addHelper", "(I)Z"⟩, 8) := ⟨⟨by decide +kernel, by decide +kernel⟩, List.mem_of_getElem? (i := 173) (by decide +kernel), List.mem_of_getElem? (i := 513) (by decide +kernel), List.mem_of_getElem? (i := 514) (by decide +kernel)⟩
theorem lw_p11 : lw_okq (⟨"SpoonHates", "changeNeed", "(I)I"⟩, 11) := ⟨⟨by decide +kernel, by decide +kernel⟩, List.mem_of_getElem? (i := 21) (by decide +kernel), List.mem_of_getElem? (i := 631) (by decide +kernel), List.mem_of_getElem? (i := 632) (by decide +kernel)⟩
theorem lw_p12 : lw_okq (⟨"SpoonHates", "changeNoon", "(I)I"⟩, 11) := ⟨⟨by decide +kernel, by decide +kernel⟩, List.mem_of_getElem? (i := 21) (by decide +kernel), List.mem_of_getElem? (i := 635) (by decide +kernel), List.mem_of_getElem? (i := 636) (by decide +kernel)⟩
theorem lw_p13 : lw_okq (⟨"SpoonHates$Soup", "cool", "(II)V"⟩, 8) := ⟨⟨by decide +kernel, by decide +kernel⟩, List.mem_of_getElem? (i := 35) (by decide +kernel), List.mem_of_getElem? (i := 672) (by decide +kernel), List.mem_of_getElem? (i := 673) (by decide +kernel)⟩
theorem lw_p14 : lw_okq (⟨"SpoonHates", "leastRound", "(III)I"⟩, 11) := ⟨⟨by decide +kernel, by decide +kernel⟩, List.mem_of_getElem? (i := 21) (by decide +kernel), List.mem_of_getElem? (i := 704) (by decide +kernel), List.mem_of_getElem? (i := 705) (by decide +kernel)⟩
theorem lw_p15 : lw_okq (⟨"SpoonHates$Rows", "begin", "(LSpoonHates$Soup;I)V"⟩, 9) := ⟨⟨by decide +kernel, by decide +kernel⟩, List.mem_of_getElem? (i := 236) (by decide +kernel), List.mem_of_getElem? (i := 720) (by decide +kernel), List.mem_of_getElem? (i := 721) (by decide +kernel)⟩
def lw_privs_1 : List (MethodName × Nat) := [(⟨"SpoonHates$Reader", "readLine", "(I)Z"⟩, 8), (⟨"SpoonHates$Reader", "fails", "(I)Z"⟩, 8), (⟨"SpoonHates$Reader", "lineOfName", "()I"⟩, 8), (⟨"SpoonHates$Reader", "readHatred", "(Z)Z"⟩, 8), (⟨"SpoonHates$Reader", "readHelper", "(I)I"⟩, 8), (⟨"SpoonHates$Reader", "readNumber", "(II)I"⟩, 8), (⟨"SpoonHates$Reader", "readSemicolon", "()Z"⟩, 8), (⟨"SpoonHates$Reader", "readPot", "()Z"⟩, 8), (⟨"SpoonHates$Reader", "readSlip", "()Z"⟩, 8), (⟨"SpoonHates$Reader", "readPlan", "()Z"⟩, 8), (⟨"SpoonHates$Reader", "addHelper", "(I)Z"⟩, 8), (⟨"SpoonHates", "changeNeed", "(I)I"⟩, 11), (⟨"SpoonHates", "changeNoon", "(I)I"⟩, 11), (⟨"SpoonHates$Soup", "cool", "(II)V"⟩, 8), (⟨"SpoonHates", "leastRound", "(III)I"⟩, 11), (⟨"SpoonHates$Rows", "begin", "(LSpoonHates$Soup;I)V"⟩, 9)]
theorem lw_r1 : ∀ q ∈ lw_privs_1, lw_okq q := List.forall_mem_cons.mpr ⟨lw_p0, List.forall_mem_cons.mpr ⟨lw_p1, List.forall_mem_cons.mpr ⟨lw_p2, List.forall_mem_cons.mpr ⟨lw_p3, List.forall_mem_cons.mpr ⟨lw_p4, List.forall_mem_cons.mpr ⟨lw_p5, List.forall_mem_cons.mpr ⟨lw_p6, List.forall_mem_cons.mpr ⟨lw_p7, List.forall_mem_cons.mpr ⟨lw_p8, List.forall_mem_cons.mpr ⟨lw_p9, List.forall_mem_cons.mpr ⟨lw_p10, List.forall_mem_cons.mpr ⟨lw_p11, List.forall_mem_cons.mpr ⟨lw_p12, List.forall_mem_cons.mpr ⟨lw_p13, List.forall_mem_cons.mpr ⟨lw_p14, List.forall_mem_cons.mpr ⟨lw_p15, fun _ h => absurd h List.not_mem_nil⟩⟩⟩⟩⟩⟩⟩⟩⟩⟩⟩⟩⟩⟩⟩⟩
theorem lw_p16 : lw_okq (⟨"SpoonHates$Rows", "listPairs", "(I)V"⟩, 9) := ⟨⟨by decide +kernel, by decide +kernel⟩, List.mem_of_getElem? (i := 236) (by decide +kernel), List.mem_of_getElem? (i := 724) (by decide +kernel), List.mem_of_getElem? (i := 725) (by decide +kernel)⟩
theorem lw_p17 : lw_okq (⟨"SpoonHates$Rows", "stirFrom", "(I)V"⟩, 9) := ⟨⟨by decide +kernel, by decide +kernel⟩, List.mem_of_getElem? (i := 236) (by decide +kernel), List.mem_of_getElem? (i := 729) (by decide +kernel), List.mem_of_getElem? (i := 730) (by decide +kernel)⟩
theorem lw_p18 : lw_okq (⟨"SpoonHates$Rows", "takeRow", "()V"⟩, 9) := ⟨⟨by decide +kernel, by decide +kernel⟩, List.mem_of_getElem? (i := 236) (by decide +kernel), List.mem_of_getElem? (i := 735) (by decide +kernel), List.mem_of_getElem? (i := 736) (by decide +kernel)⟩
theorem lw_p19 : lw_okq (⟨"SpoonHates$Rows", "rowCount", "()I"⟩, 9) := ⟨⟨by decide +kernel, by decide +kernel⟩, List.mem_of_getElem? (i := 236) (by decide +kernel), List.mem_of_getElem? (i := 740) (by decide +kernel), List.mem_of_getElem? (i := 741) (by decide +kernel)⟩
theorem lw_p20 : lw_okq (⟨"SpoonHates$Rows", "advance", "()V"⟩, 9) := ⟨⟨by decide +kernel, by decide +kernel⟩, List.mem_of_getElem? (i := 236) (by decide +kernel), List.mem_of_getElem? (i := 744) (by decide +kernel), List.mem_of_getElem? (i := 745) (by decide +kernel)⟩
theorem lw_p21 : lw_okq (⟨"SpoonHates", "fewestSlips", "()I"⟩, 11) := ⟨⟨by decide +kernel, by decide +kernel⟩, List.mem_of_getElem? (i := 21) (by decide +kernel), List.mem_of_getElem? (i := 764) (by decide +kernel), List.mem_of_getElem? (i := 765) (by decide +kernel)⟩
theorem lw_p22 : lw_okq (⟨"SpoonHates", "sufficeForNeed", "(I)Z"⟩, 11) := ⟨⟨by decide +kernel, by decide +kernel⟩, List.mem_of_getElem? (i := 21) (by decide +kernel), List.mem_of_getElem? (i := 774) (by decide +kernel), List.mem_of_getElem? (i := 775) (by decide +kernel)⟩
theorem lw_p23 : lw_okq (⟨"SpoonHates$Match", "tellReaches", "(II)V"⟩, 4) := ⟨⟨by decide +kernel, by decide +kernel⟩, List.mem_of_getElem? (i := 276) (by decide +kernel), List.mem_of_getElem? (i := 790) (by decide +kernel), List.mem_of_getElem? (i := 791) (by decide +kernel)⟩
theorem lw_p24 : lw_okq (⟨"SpoonHates$Match", "pairsUp", "(I)Z"⟩, 4) := ⟨⟨by decide +kernel, by decide +kernel⟩, List.mem_of_getElem? (i := 276) (by decide +kernel), List.mem_of_getElem? (i := 794) (by decide +kernel), List.mem_of_getElem? (i := 795) (by decide +kernel)⟩
theorem lw_p25 : lw_okq (⟨"SpoonHates$Match", "takeIfMore", "(LSpoonHates$Soup;)V"⟩, 4) := ⟨⟨by decide +kernel, by decide +kernel⟩, List.mem_of_getElem? (i := 276) (by decide +kernel), List.mem_of_getElem? (i := 798) (by decide +kernel), List.mem_of_getElem? (i := 799) (by decide +kernel)⟩
theorem lw_p26 : lw_okq (⟨"SpoonHates", "wouldBeAsSeen", "(III)Z"⟩, 11) := ⟨⟨by decide +kernel, by decide +kernel⟩, List.mem_of_getElem? (i := 21) (by decide +kernel), List.mem_of_getElem? (i := 824) (by decide +kernel), List.mem_of_getElem? (i := 825) (by decide +kernel)⟩
theorem lw_p27 : lw_okq (⟨"SpoonHates", "isLoveAsked", "(IIII)Z"⟩, 11) := ⟨⟨by decide +kernel, by decide +kernel⟩, List.mem_of_getElem? (i := 21) (by decide +kernel), List.mem_of_getElem? (i := 840) (by decide +kernel), List.mem_of_getElem? (i := 841) (by decide +kernel)⟩
theorem lw_p28 : lw_okq (⟨"SpoonHates", "byLove", "(IIIIZ)J"⟩, 11) := ⟨⟨by decide +kernel, by decide +kernel⟩, List.mem_of_getElem? (i := 21) (by decide +kernel), List.mem_of_getElem? (i := 844) (by decide +kernel), List.mem_of_getElem? (i := 845) (by decide +kernel)⟩
theorem lw_p29 : lw_okq (⟨"SpoonHates", "worthOfTrial", "(Z)I"⟩, 11) := ⟨⟨by decide +kernel, by decide +kernel⟩, List.mem_of_getElem? (i := 21) (by decide +kernel), List.mem_of_getElem? (i := 849) (by decide +kernel), List.mem_of_getElem? (i := 850) (by decide +kernel)⟩
theorem lw_p30 : lw_okq (⟨"SpoonHatesModel", "firstDraft", "()V"⟩, 36) := ⟨⟨by decide +kernel, by decide +kernel⟩, List.mem_of_getElem? (i := 928) (by decide +kernel), List.mem_of_getElem? (i := 934) (by decide +kernel), List.mem_of_getElem? (i := 935) (by decide +kernel)⟩
theorem lw_p31 : lw_okq (⟨"SpoonHatesModel", "keepDraft", "()V"⟩, 36) := ⟨⟨by decide +kernel, by decide +kernel⟩, List.mem_of_getElem? (i := 928) (by decide +kernel), List.mem_of_getElem? (i := 938) (by decide +kernel), List.mem_of_getElem? (i := 939) (by decide +kernel)⟩
def lw_privs_2 : List (MethodName × Nat) := [(⟨"SpoonHates$Rows", "listPairs", "(I)V"⟩, 9), (⟨"SpoonHates$Rows", "stirFrom", "(I)V"⟩, 9), (⟨"SpoonHates$Rows", "takeRow", "()V"⟩, 9), (⟨"SpoonHates$Rows", "rowCount", "()I"⟩, 9), (⟨"SpoonHates$Rows", "advance", "()V"⟩, 9), (⟨"SpoonHates", "fewestSlips", "()I"⟩, 11), (⟨"SpoonHates", "sufficeForNeed", "(I)Z"⟩, 11), (⟨"SpoonHates$Match", "tellReaches", "(II)V"⟩, 4), (⟨"SpoonHates$Match", "pairsUp", "(I)Z"⟩, 4), (⟨"SpoonHates$Match", "takeIfMore", "(LSpoonHates$Soup;)V"⟩, 4), (⟨"SpoonHates", "wouldBeAsSeen", "(III)Z"⟩, 11), (⟨"SpoonHates", "isLoveAsked", "(IIII)Z"⟩, 11), (⟨"SpoonHates", "byLove", "(IIIIZ)J"⟩, 11), (⟨"SpoonHates", "worthOfTrial", "(Z)I"⟩, 11), (⟨"SpoonHatesModel", "firstDraft", "()V"⟩, 36), (⟨"SpoonHatesModel", "keepDraft", "()V"⟩, 36)]
theorem lw_r2 : ∀ q ∈ lw_privs_2, lw_okq q := List.forall_mem_cons.mpr ⟨lw_p16, List.forall_mem_cons.mpr ⟨lw_p17, List.forall_mem_cons.mpr ⟨lw_p18, List.forall_mem_cons.mpr ⟨lw_p19, List.forall_mem_cons.mpr ⟨lw_p20, List.forall_mem_cons.mpr ⟨lw_p21, List.forall_mem_cons.mpr ⟨lw_p22, List.forall_mem_cons.mpr ⟨lw_p23, List.forall_mem_cons.mpr ⟨lw_p24, List.forall_mem_cons.mpr ⟨lw_p25, List.forall_mem_cons.mpr ⟨lw_p26, List.forall_mem_cons.mpr ⟨lw_p27, List.forall_mem_cons.mpr ⟨lw_p28, List.forall_mem_cons.mpr ⟨lw_p29, List.forall_mem_cons.mpr ⟨lw_p30, List.forall_mem_cons.mpr ⟨lw_p31, fun _ h => absurd h List.not_mem_nil⟩⟩⟩⟩⟩⟩⟩⟩⟩⟩⟩⟩⟩⟩⟩⟩
theorem lw_p32 : lw_okq (⟨"SpoonHatesModel", "next", "()V"⟩, 36) := ⟨⟨by decide +kernel, by decide +kernel⟩, List.mem_of_getElem? (i := 928) (by decide +kernel), List.mem_of_getElem? (i := 1068) (by decide +kernel), List.mem_of_getElem? (i := 1069) (by decide +kernel)⟩
theorem lw_p33 : lw_okq (⟨"SpoonHatesModel", "byteAt", "(I)I"⟩, 36) := ⟨⟨by decide +kernel, by decide +kernel⟩, List.mem_of_getElem? (i := 928) (by decide +kernel), List.mem_of_getElem? (i := 1072) (by decide +kernel), List.mem_of_getElem? (i := 1073) (by decide +kernel)⟩
theorem lw_p34 : lw_okq (⟨"SpoonHatesModel", "needs", "(ZI)V"⟩, 36) := ⟨⟨by decide +kernel, by decide +kernel⟩, List.mem_of_getElem? (i := 928) (by decide +kernel), List.mem_of_getElem? (i := 1080) (by decide +kernel), List.mem_of_getElem? (i := 1081) (by decide +kernel)⟩
theorem lw_p35 : lw_okq (⟨"SpoonHatesModel", "readLine", "()V"⟩, 36) := ⟨⟨by decide +kernel, by decide +kernel⟩, List.mem_of_getElem? (i := 928) (by decide +kernel), List.mem_of_getElem? (i := 1084) (by decide +kernel), List.mem_of_getElem? (i := 1085) (by decide +kernel)⟩
theorem lw_p36 : lw_okq (⟨"SpoonHatesModel", "lineNow", "()I"⟩, 36) := ⟨⟨by decide +kernel, by decide +kernel⟩, List.mem_of_getElem? (i := 928) (by decide +kernel), List.mem_of_getElem? (i := 1088) (by decide +kernel), List.mem_of_getElem? (i := 1089) (by decide +kernel)⟩
theorem lw_p37 : lw_okq (⟨"SpoonHatesModel", "is", "(IIII)Z"⟩, 36) := ⟨⟨by decide +kernel, by decide +kernel⟩, List.mem_of_getElem? (i := 928) (by decide +kernel), List.mem_of_getElem? (i := 1092) (by decide +kernel), List.mem_of_getElem? (i := 1093) (by decide +kernel)⟩
theorem lw_p38 : lw_okq (⟨"SpoonHatesModel", "ends", "(IIII)Z"⟩, 36) := ⟨⟨by decide +kernel, by decide +kernel⟩, List.mem_of_getElem? (i := 928) (by decide +kernel), List.mem_of_getElem? (i := 1096) (by decide +kernel), List.mem_of_getElem? (i := 1097) (by decide +kernel)⟩
theorem lw_p39 : lw_okq (⟨"SpoonHatesModel", "readLineOf", "(I)V"⟩, 36) := ⟨⟨by decide +kernel, by decide +kernel⟩, List.mem_of_getElem? (i := 928) (by decide +kernel), List.mem_of_getElem? (i := 1101) (by decide +kernel), List.mem_of_getElem? (i := 1102) (by decide +kernel)⟩
theorem lw_p40 : lw_okq (⟨"SpoonHatesModel", "readHate", "(Z)V"⟩, 36) := ⟨⟨by decide +kernel, by decide +kernel⟩, List.mem_of_getElem? (i := 928) (by decide +kernel), List.mem_of_getElem? (i := 1105) (by decide +kernel), List.mem_of_getElem? (i := 1106) (by decide +kernel)⟩
theorem lw_p41 : lw_okq (⟨"SpoonHatesModel", "readHelper", "()I"⟩, 36) := ⟨⟨by decide +kernel, by decide +kernel⟩, List.mem_of_getElem? (i := 928) (by decide +kernel), List.mem_of_getElem? (i := 1109) (by decide +kernel), List.mem_of_getElem? (i := 1110) (by decide +kernel)⟩
theorem lw_p42 : lw_okq (⟨"SpoonHatesModel", "readNumber", "(II)I"⟩, 36) := ⟨⟨by decide +kernel, by decide +kernel⟩, List.mem_of_getElem? (i := 928) (by decide +kernel), List.mem_of_getElem? (i := 1113) (by decide +kernel), List.mem_of_getElem? (i := 1114) (by decide +kernel)⟩
theorem lw_p43 : lw_okq (⟨"SpoonHatesModel", "looked", "(II)I"⟩, 36) := ⟨⟨by decide +kernel, by decide +kernel⟩, List.mem_of_getElem? (i := 928) (by decide +kernel), List.mem_of_getElem? (i := 1117) (by decide +kernel), List.mem_of_getElem? (i := 1118) (by decide +kernel)⟩
theorem lw_p44 : lw_okq (⟨"SpoonHatesModel", "readOther", "(IZZ)I"⟩, 36) := ⟨⟨by decide +kernel, by decide +kernel⟩, List.mem_of_getElem? (i := 928) (by decide +kernel), List.mem_of_getElem? (i := 1121) (by decide +kernel), List.mem_of_getElem? (i := 1122) (by decide +kernel)⟩
theorem lw_p45 : lw_okq (⟨"SpoonHatesModel", "readSlip", "()V"⟩, 36) := ⟨⟨by decide +kernel, by decide +kernel⟩, List.mem_of_getElem? (i := 928) (by decide +kernel), List.mem_of_getElem? (i := 1125) (by decide +kernel), List.mem_of_getElem? (i := 1126) (by decide +kernel)⟩
theorem lw_p46 : lw_okq (⟨"SpoonHatesModel", "readPlan", "()V"⟩, 36) := ⟨⟨by decide +kernel, by decide +kernel⟩, List.mem_of_getElem? (i := 928) (by decide +kernel), List.mem_of_getElem? (i := 1129) (by decide +kernel), List.mem_of_getElem? (i := 1130) (by decide +kernel)⟩
theorem lw_p47 : lw_okq (⟨"SpoonHatesModel", "isHelper", "(I)Z"⟩, 36) := ⟨⟨by decide +kernel, by decide +kernel⟩, List.mem_of_getElem? (i := 928) (by decide +kernel), List.mem_of_getElem? (i := 1148) (by decide +kernel), List.mem_of_getElem? (i := 1149) (by decide +kernel)⟩
def lw_privs_3 : List (MethodName × Nat) := [(⟨"SpoonHatesModel", "next", "()V"⟩, 36), (⟨"SpoonHatesModel", "byteAt", "(I)I"⟩, 36), (⟨"SpoonHatesModel", "needs", "(ZI)V"⟩, 36), (⟨"SpoonHatesModel", "readLine", "()V"⟩, 36), (⟨"SpoonHatesModel", "lineNow", "()I"⟩, 36), (⟨"SpoonHatesModel", "is", "(IIII)Z"⟩, 36), (⟨"SpoonHatesModel", "ends", "(IIII)Z"⟩, 36), (⟨"SpoonHatesModel", "readLineOf", "(I)V"⟩, 36), (⟨"SpoonHatesModel", "readHate", "(Z)V"⟩, 36), (⟨"SpoonHatesModel", "readHelper", "()I"⟩, 36), (⟨"SpoonHatesModel", "readNumber", "(II)I"⟩, 36), (⟨"SpoonHatesModel", "looked", "(II)I"⟩, 36), (⟨"SpoonHatesModel", "readOther", "(IZZ)I"⟩, 36), (⟨"SpoonHatesModel", "readSlip", "()V"⟩, 36), (⟨"SpoonHatesModel", "readPlan", "()V"⟩, 36), (⟨"SpoonHatesModel", "isHelper", "(I)Z"⟩, 36)]
theorem lw_r3 : ∀ q ∈ lw_privs_3, lw_okq q := List.forall_mem_cons.mpr ⟨lw_p32, List.forall_mem_cons.mpr ⟨lw_p33, List.forall_mem_cons.mpr ⟨lw_p34, List.forall_mem_cons.mpr ⟨lw_p35, List.forall_mem_cons.mpr ⟨lw_p36, List.forall_mem_cons.mpr ⟨lw_p37, List.forall_mem_cons.mpr ⟨lw_p38, List.forall_mem_cons.mpr ⟨lw_p39, List.forall_mem_cons.mpr ⟨lw_p40, List.forall_mem_cons.mpr ⟨lw_p41, List.forall_mem_cons.mpr ⟨lw_p42, List.forall_mem_cons.mpr ⟨lw_p43, List.forall_mem_cons.mpr ⟨lw_p44, List.forall_mem_cons.mpr ⟨lw_p45, List.forall_mem_cons.mpr ⟨lw_p46, List.forall_mem_cons.mpr ⟨lw_p47, fun _ h => absurd h List.not_mem_nil⟩⟩⟩⟩⟩⟩⟩⟩⟩⟩⟩⟩⟩⟩⟩⟩
theorem lw_p48 : lw_okq (⟨"SpoonHatesModel", "areTwo", "(II)Z"⟩, 36) := ⟨⟨by decide +kernel, by decide +kernel⟩, List.mem_of_getElem? (i := 928) (by decide +kernel), List.mem_of_getElem? (i := 1156) (by decide +kernel), List.mem_of_getElem? (i := 1157) (by decide +kernel)⟩
theorem lw_p49 : lw_okq (⟨"SpoonHatesModel", "starts", "()V"⟩, 36) := ⟨⟨by decide +kernel, by decide +kernel⟩, List.mem_of_getElem? (i := 928) (by decide +kernel), List.mem_of_getElem? (i := 1163) (by decide +kernel), List.mem_of_getElem? (i := 1164) (by decide +kernel)⟩
theorem lw_p50 : lw_okq (⟨"SpoonHatesModel", "hates", "(II)I"⟩, 36) := ⟨⟨by decide +kernel, by decide +kernel⟩, List.mem_of_getElem? (i := 928) (by decide +kernel), List.mem_of_getElem? (i := 1167) (by decide +kernel), List.mem_of_getElem? (i := 1168) (by decide +kernel)⟩
theorem lw_p51 : lw_okq (⟨"SpoonHatesModel", "feels", "(II)I"⟩, 36) := ⟨⟨by decide +kernel, by decide +kernel⟩, List.mem_of_getElem? (i := 928) (by decide +kernel), List.mem_of_getElem? (i := 1171) (by decide +kernel), List.mem_of_getElem? (i := 1172) (by decide +kernel)⟩
theorem lw_p52 : lw_okq (⟨"SpoonHatesModel", "isSlip", "(I)Z"⟩, 36) := ⟨⟨by decide +kernel, by decide +kernel⟩, List.mem_of_getElem? (i := 928) (by decide +kernel), List.mem_of_getElem? (i := 1179) (by decide +kernel), List.mem_of_getElem? (i := 1180) (by decide +kernel)⟩
theorem lw_p53 : lw_okq (⟨"SpoonHatesModel", "becomes", "(II)I"⟩, 36) := ⟨⟨by decide +kernel, by decide +kernel⟩, List.mem_of_getElem? (i := 928) (by decide +kernel), List.mem_of_getElem? (i := 1192) (by decide +kernel), List.mem_of_getElem? (i := 1193) (by decide +kernel)⟩
theorem lw_p54 : lw_okq (⟨"SpoonHatesModel", "uses", "(I)V"⟩, 36) := ⟨⟨by decide +kernel, by decide +kernel⟩, List.mem_of_getElem? (i := 928) (by decide +kernel), List.mem_of_getElem? (i := 1200) (by decide +kernel), List.mem_of_getElem? (i := 1201) (by decide +kernel)⟩
theorem lw_p55 : lw_okq (⟨"SpoonHatesModel", "becomesHate", "(III)V"⟩, 36) := ⟨⟨by decide +kernel, by decide +kernel⟩, List.mem_of_getElem? (i := 928) (by decide +kernel), List.mem_of_getElem? (i := 1204) (by decide +kernel), List.mem_of_getElem? (i := 1205) (by decide +kernel)⟩
theorem lw_p56 : lw_okq (⟨"SpoonHatesModel", "settles", "()V"⟩, 36) := ⟨⟨by decide +kernel, by decide +kernel⟩, List.mem_of_getElem? (i := 928) (by decide +kernel), List.mem_of_getElem? (i := 1208) (by decide +kernel), List.mem_of_getElem? (i := 1209) (by decide +kernel)⟩
theorem lw_p57 : lw_okq (⟨"SpoonHatesModel", "turnOf", "(II)I"⟩, 36) := ⟨⟨by decide +kernel, by decide +kernel⟩, List.mem_of_getElem? (i := 928) (by decide +kernel), List.mem_of_getElem? (i := 1245) (by decide +kernel), List.mem_of_getElem? (i := 1246) (by decide +kernel)⟩
theorem lw_p58 : lw_okq (⟨"SpoonHatesModel", "stirs", "(II)Z"⟩, 36) := ⟨⟨by decide +kernel, by decide +kernel⟩, List.mem_of_getElem? (i := 928) (by decide +kernel), List.mem_of_getElem? (i := 1256) (by decide +kernel), List.mem_of_getElem? (i := 1257) (by decide +kernel)⟩
theorem lw_p59 : lw_okq (⟨"SpoonHatesModel", "stirsOn", "(II)Z"⟩, 36) := ⟨⟨by decide +kernel, by decide +kernel⟩, List.mem_of_getElem? (i := 928) (by decide +kernel), List.mem_of_getElem? (i := 1260) (by decide +kernel), List.mem_of_getElem? (i := 1261) (by decide +kernel)⟩
theorem lw_p60 : lw_okq (⟨"SpoonHatesModel", "coolsOff", "(II)V"⟩, 36) := ⟨⟨by decide +kernel, by decide +kernel⟩, List.mem_of_getElem? (i := 928) (by decide +kernel), List.mem_of_getElem? (i := 1264) (by decide +kernel), List.mem_of_getElem? (i := 1265) (by decide +kernel)⟩
theorem lw_p61 : lw_okq (⟨"SpoonHatesModel", "coolsBy", "(I)I"⟩, 36) := ⟨⟨by decide +kernel, by decide +kernel⟩, List.mem_of_getElem? (i := 928) (by decide +kernel), List.mem_of_getElem? (i := 1268) (by decide +kernel), List.mem_of_getElem? (i := 1269) (by decide +kernel)⟩
theorem lw_p62 : lw_okq (⟨"SpoonHatesModel", "plansGo", "()V"⟩, 36) := ⟨⟨by decide +kernel, by decide +kernel⟩, List.mem_of_getElem? (i := 928) (by decide +kernel), List.mem_of_getElem? (i := 1277) (by decide +kernel), List.mem_of_getElem? (i := 1278) (by decide +kernel)⟩
theorem lw_p63 : lw_okq (⟨"SpoonHatesModel", "allHate", "()I"⟩, 36) := ⟨⟨by decide +kernel, by decide +kernel⟩, List.mem_of_getElem? (i := 928) (by decide +kernel), List.mem_of_getElem? (i := 1281) (by decide +kernel), List.mem_of_getElem? (i := 1282) (by decide +kernel)⟩
def lw_privs_4 : List (MethodName × Nat) := [(⟨"SpoonHatesModel", "areTwo", "(II)Z"⟩, 36), (⟨"SpoonHatesModel", "starts", "()V"⟩, 36), (⟨"SpoonHatesModel", "hates", "(II)I"⟩, 36), (⟨"SpoonHatesModel", "feels", "(II)I"⟩, 36), (⟨"SpoonHatesModel", "isSlip", "(I)Z"⟩, 36), (⟨"SpoonHatesModel", "becomes", "(II)I"⟩, 36), (⟨"SpoonHatesModel", "uses", "(I)V"⟩, 36), (⟨"SpoonHatesModel", "becomesHate", "(III)V"⟩, 36), (⟨"SpoonHatesModel", "settles", "()V"⟩, 36), (⟨"SpoonHatesModel", "turnOf", "(II)I"⟩, 36), (⟨"SpoonHatesModel", "stirs", "(II)Z"⟩, 36), (⟨"SpoonHatesModel", "stirsOn", "(II)Z"⟩, 36), (⟨"SpoonHatesModel", "coolsOff", "(II)V"⟩, 36), (⟨"SpoonHatesModel", "coolsBy", "(I)I"⟩, 36), (⟨"SpoonHatesModel", "plansGo", "()V"⟩, 36), (⟨"SpoonHatesModel", "allHate", "()I"⟩, 36)]
theorem lw_r4 : ∀ q ∈ lw_privs_4, lw_okq q := List.forall_mem_cons.mpr ⟨lw_p48, List.forall_mem_cons.mpr ⟨lw_p49, List.forall_mem_cons.mpr ⟨lw_p50, List.forall_mem_cons.mpr ⟨lw_p51, List.forall_mem_cons.mpr ⟨lw_p52, List.forall_mem_cons.mpr ⟨lw_p53, List.forall_mem_cons.mpr ⟨lw_p54, List.forall_mem_cons.mpr ⟨lw_p55, List.forall_mem_cons.mpr ⟨lw_p56, List.forall_mem_cons.mpr ⟨lw_p57, List.forall_mem_cons.mpr ⟨lw_p58, List.forall_mem_cons.mpr ⟨lw_p59, List.forall_mem_cons.mpr ⟨lw_p60, List.forall_mem_cons.mpr ⟨lw_p61, List.forall_mem_cons.mpr ⟨lw_p62, List.forall_mem_cons.mpr ⟨lw_p63, fun _ h => absurd h List.not_mem_nil⟩⟩⟩⟩⟩⟩⟩⟩⟩⟩⟩⟩⟩⟩⟩⟩
theorem lw_p64 : lw_okq (⟨"SpoonHatesModel", "pairs", "()I"⟩, 36) := ⟨⟨by decide +kernel, by decide +kernel⟩, List.mem_of_getElem? (i := 928) (by decide +kernel), List.mem_of_getElem? (i := 1303) (by decide +kernel), List.mem_of_getElem? (i := 1304) (by decide +kernel)⟩
theorem lw_p65 : lw_okq (⟨"SpoonHatesModel", "findPairs", "()V"⟩, 36) := ⟨⟨by decide +kernel, by decide +kernel⟩, List.mem_of_getElem? (i := 928) (by decide +kernel), List.mem_of_getElem? (i := 1307) (by decide +kernel), List.mem_of_getElem? (i := 1308) (by decide +kernel)⟩
theorem lw_p66 : lw_okq (⟨"SpoonHatesModel", "pairAt", "(I)I"⟩, 36) := ⟨⟨by decide +kernel, by decide +kernel⟩, List.mem_of_getElem? (i := 928) (by decide +kernel), List.mem_of_getElem? (i := 1311) (by decide +kernel), List.mem_of_getElem? (i := 1312) (by decide +kernel)⟩
theorem lw_p67 : lw_okq (⟨"SpoonHatesModel", "rowsOf", "(I)I"⟩, 36) := ⟨⟨by decide +kernel, by decide +kernel⟩, List.mem_of_getElem? (i := 928) (by decide +kernel), List.mem_of_getElem? (i := 1315) (by decide +kernel), List.mem_of_getElem? (i := 1316) (by decide +kernel)⟩
theorem lw_p68 : lw_okq (⟨"SpoonHatesModel", "stirsRow", "(II)V"⟩, 36) := ⟨⟨by decide +kernel, by decide +kernel⟩, List.mem_of_getElem? (i := 928) (by decide +kernel), List.mem_of_getElem? (i := 1319) (by decide +kernel), List.mem_of_getElem? (i := 1320) (by decide +kernel)⟩
theorem lw_p69 : lw_okq (⟨"SpoonHatesModel", "pairIn", "(III)I"⟩, 36) := ⟨⟨by decide +kernel, by decide +kernel⟩, List.mem_of_getElem? (i := 928) (by decide +kernel), List.mem_of_getElem? (i := 1323) (by decide +kernel), List.mem_of_getElem? (i := 1324) (by decide +kernel)⟩
theorem lw_p70 : lw_okq (⟨"SpoonHatesModel", "codes", "()I"⟩, 36) := ⟨⟨by decide +kernel, by decide +kernel⟩, List.mem_of_getElem? (i := 928) (by decide +kernel), List.mem_of_getElem? (i := 1347) (by decide +kernel), List.mem_of_getElem? (i := 1348) (by decide +kernel)⟩
theorem lw_p71 : lw_okq (⟨"SpoonHatesModel", "isMatch", "(I)Z"⟩, 36) := ⟨⟨by decide +kernel, by decide +kernel⟩, List.mem_of_getElem? (i := 928) (by decide +kernel), List.mem_of_getElem? (i := 1351) (by decide +kernel), List.mem_of_getElem? (i := 1352) (by decide +kernel)⟩
theorem lw_p72 : lw_okq (⟨"SpoonHatesModel", "turnsNow", "()I"⟩, 36) := ⟨⟨by decide +kernel, by decide +kernel⟩, List.mem_of_getElem? (i := 928) (by decide +kernel), List.mem_of_getElem? (i := 1355) (by decide +kernel), List.mem_of_getElem? (i := 1356) (by decide +kernel)⟩
theorem lw_p73 : lw_okq (⟨"SpoonHatesModel", "isSo", "(IIII)Z"⟩, 36) := ⟨⟨by decide +kernel, by decide +kernel⟩, List.mem_of_getElem? (i := 928) (by decide +kernel), List.mem_of_getElem? (i := 1373) (by decide +kernel), List.mem_of_getElem? (i := 1374) (by decide +kernel)⟩
theorem lw_p74 : lw_okq (⟨"SpoonHatesModel", "findLove", "(III)V"⟩, 36) := ⟨⟨by decide +kernel, by decide +kernel⟩, List.mem_of_getElem? (i := 928) (by decide +kernel), List.mem_of_getElem? (i := 1387) (by decide +kernel), List.mem_of_getElem? (i := 1388) (by decide +kernel)⟩
theorem lw_p75 : lw_okq (⟨"SpoonHatesModel", "adds", "(J)V"⟩, 36) := ⟨⟨by decide +kernel, by decide +kernel⟩, List.mem_of_getElem? (i := 928) (by decide +kernel), List.mem_of_getElem? (i := 1391) (by decide +kernel), List.mem_of_getElem? (i := 1392) (by decide +kernel)⟩
theorem lw_p76 : lw_okq (⟨"SpoonHatesModel", "copies", "(II)V"⟩, 36) := ⟨⟨by decide +kernel, by decide +kernel⟩, List.mem_of_getElem? (i := 928) (by decide +kernel), List.mem_of_getElem? (i := 1415) (by decide +kernel), List.mem_of_getElem? (i := 1416) (by decide +kernel)⟩
def lw_privs_5 : List (MethodName × Nat) := [(⟨"SpoonHatesModel", "pairs", "()I"⟩, 36), (⟨"SpoonHatesModel", "findPairs", "()V"⟩, 36), (⟨"SpoonHatesModel", "pairAt", "(I)I"⟩, 36), (⟨"SpoonHatesModel", "rowsOf", "(I)I"⟩, 36), (⟨"SpoonHatesModel", "stirsRow", "(II)V"⟩, 36), (⟨"SpoonHatesModel", "pairIn", "(III)I"⟩, 36), (⟨"SpoonHatesModel", "codes", "()I"⟩, 36), (⟨"SpoonHatesModel", "isMatch", "(I)Z"⟩, 36), (⟨"SpoonHatesModel", "turnsNow", "()I"⟩, 36), (⟨"SpoonHatesModel", "isSo", "(IIII)Z"⟩, 36), (⟨"SpoonHatesModel", "findLove", "(III)V"⟩, 36), (⟨"SpoonHatesModel", "adds", "(J)V"⟩, 36), (⟨"SpoonHatesModel", "copies", "(II)V"⟩, 36)]
theorem lw_r5 : ∀ q ∈ lw_privs_5, lw_okq q := List.forall_mem_cons.mpr ⟨lw_p64, List.forall_mem_cons.mpr ⟨lw_p65, List.forall_mem_cons.mpr ⟨lw_p66, List.forall_mem_cons.mpr ⟨lw_p67, List.forall_mem_cons.mpr ⟨lw_p68, List.forall_mem_cons.mpr ⟨lw_p69, List.forall_mem_cons.mpr ⟨lw_p70, List.forall_mem_cons.mpr ⟨lw_p71, List.forall_mem_cons.mpr ⟨lw_p72, List.forall_mem_cons.mpr ⟨lw_p73, List.forall_mem_cons.mpr ⟨lw_p74, List.forall_mem_cons.mpr ⟨lw_p75, List.forall_mem_cons.mpr ⟨lw_p76, fun _ h => absurd h List.not_mem_nil⟩⟩⟩⟩⟩⟩⟩⟩⟩⟩⟩⟩⟩
def lw_privs : List (MethodName × Nat) := lw_privs_1 ++ (lw_privs_2 ++ (lw_privs_3 ++ (lw_privs_4 ++ (lw_privs_5))))
def lw_tbl : List Cond := k2_sels lw_privs ++ tables_1
theorem lw_privs_ok : ∀ q ∈ lw_privs, lw_okq q := by
  show ∀ q ∈ lw_privs_1 ++ (lw_privs_2 ++ (lw_privs_3 ++ (lw_privs_4 ++ (lw_privs_5)))), lw_okq q
  exact List.forall_mem_append.mpr ⟨lw_r1, List.forall_mem_append.mpr ⟨lw_r2, List.forall_mem_append.mpr ⟨lw_r3, List.forall_mem_append.mpr ⟨lw_r4, lw_r5⟩⟩⟩⟩
def RX0 : String := "SpoonHates$Kitchen"
def TX0 : u_T := fun k => match k with
  | 0 => ("SpoonHates$Kitchen", "soup", "LSpoonHates$Soup;", true)
  | 1 => ("SpoonHates$Kitchen", "slips", "LSpoonHates$Slips;", true)
  | 2 => ("SpoonHates$Kitchen", "plan", "LSpoonHates$Plan;", true)
  | _ => ("SpoonHates$Kitchen", "seen", "LSpoonHates$Seen;", true)
def tyX0 : Nat → FieldType := fun k => match k with
  | 0 => .object "SpoonHates$Soup"
  | 1 => .object "SpoonHates$Slips"
  | 2 => .object "SpoonHates$Plan"
  | _ => .object "SpoonHates$Seen"
abbrev wsX00 : List Cond := u_ws RX0 TX0 4
theorem nmX0 : ∀ a, a < 4 → ∀ b, b < 4 → a ≠ b → (TX0 a).2.1 ≠ (TX0 b).2.1 := by decide +kernel
theorem tyX0_ok : ∀ k, k < 4 → parseFieldDescriptor (TX0 k).2.2.1 = some (tyX0 k) := by decide +kernel
abbrev cX0_init : ByteArray := prog_2_method_1_code
def yX0_init : MethodName := ⟨RX0, "<init>", "()V"⟩
abbrev cX0_copyFrom : ByteArray := prog_2_method_2_code
def yX0_copyFrom : MethodName := ⟨RX0, "copyFrom", "(LSpoonHates$Kitchen;)V"⟩
abbrev cX0_clear : ByteArray := prog_2_method_3_code
def yX0_clear : MethodName := ⟨RX0, "clear", "()V"⟩
def RX1 : String := "SpoonHates$Match"
def TX1 : u_T := fun k => match k with
  | 0 => ("SpoonHates$Match", "foundSum", "I", false)
  | 1 => ("SpoonHates$Match", "found", "[I", true)
  | 2 => ("SpoonHates$Match", "mates", "[I", true)
  | _ => ("SpoonHates$Match", "reach", "[I", true)
def tyX1 : Nat → FieldType := fun k => match k with
  | 0 => .int
  | 1 => .array .int
  | 2 => .array .int
  | _ => .array .int
abbrev wsX10 : List Cond := u_ws RX1 TX1 4
theorem nmX1 : ∀ a, a < 4 → ∀ b, b < 4 → a ≠ b → (TX1 a).2.1 ≠ (TX1 b).2.1 := by decide +kernel
theorem tyX1_ok : ∀ k, k < 4 → parseFieldDescriptor (TX1 k).2.2.1 = some (tyX1 k) := by decide +kernel
abbrev cX1_init : ByteArray := prog_3_method_1_code
def yX1_init : MethodName := ⟨RX1, "<init>", "()V"⟩
abbrev cX1_seek : ByteArray := prog_3_method_2_code
def yX1_seek : MethodName := ⟨RX1, "seek", "(LSpoonHates$Soup;)V"⟩
abbrev cX1_tellReaches : ByteArray := prog_3_method_3_code
def yX1_tellReaches : MethodName := ⟨RX1, "tellReaches", "(II)V"⟩
abbrev cX1_pairsUp : ByteArray := prog_3_method_4_code
def yX1_pairsUp : MethodName := ⟨RX1, "pairsUp", "(I)Z"⟩
abbrev cX1_takeIfMore : ByteArray := prog_3_method_5_code
def yX1_takeIfMore : MethodName := ⟨RX1, "takeIfMore", "(LSpoonHates$Soup;)V"⟩
def RX2 : String := "SpoonHates$Plan"
def TX2 : u_T := fun k => match k with
  | 0 => ("SpoonHates$Plan", "count", "I", false)
  | _ => ("SpoonHates$Plan", "pairs", "[I", true)
def tyX2 : Nat → FieldType := fun k => match k with
  | 0 => .int
  | _ => .array .int
abbrev wsX20 : List Cond := u_ws RX2 TX2 2
theorem nmX2 : ∀ a, a < 2 → ∀ b, b < 2 → a ≠ b → (TX2 a).2.1 ≠ (TX2 b).2.1 := by decide +kernel
theorem tyX2_ok : ∀ k, k < 2 → parseFieldDescriptor (TX2 k).2.2.1 = some (tyX2 k) := by decide +kernel
abbrev cX2_init : ByteArray := prog_4_method_1_code
def yX2_init : MethodName := ⟨RX2, "<init>", "()V"⟩
abbrev cX2_copyFrom : ByteArray := prog_4_method_2_code
def yX2_copyFrom : MethodName := ⟨RX2, "copyFrom", "(LSpoonHates$Plan;)V"⟩
abbrev cX2_isFull : ByteArray := prog_4_method_3_code
def yX2_isFull : MethodName := ⟨RX2, "isFull", "()Z"⟩
abbrev cX2_add : ByteArray := prog_4_method_4_code
def yX2_add : MethodName := ⟨RX2, "add", "(II)V"⟩
abbrev cX2_stirAll : ByteArray := prog_4_method_5_code
def yX2_stirAll : MethodName := ⟨RX2, "stirAll", "(LSpoonHates$Soup;)I"⟩
def RX3 : String := "SpoonHates$Reader"
def TX3 : u_T := fun k => match k with
  | 0 => ("SpoonHates$Reader", "draft", "LSpoonHates$Kitchen;", true)
  | 1 => ("SpoonHates$Reader", "lines", "I", false)
  | 2 => ("SpoonHates$Reader", "fault", "I", false)
  | 3 => ("SpoonHates$Reader", "faultPlace", "I", false)
  | 4 => ("SpoonHates$Reader", "tape", "LSpoonHates$Tape;", true)
  | 5 => ("SpoonHates$Reader", "hatredsTold", "I", false)
  | 6 => ("SpoonHates$Reader", "potTold", "Z", false)
  | _ => ("SpoonHates$Reader", "greatestHelper", "I", false)
def tyX3 : Nat → FieldType := fun k => match k with
  | 0 => .object "SpoonHates$Kitchen"
  | 1 => .int
  | 2 => .int
  | 3 => .int
  | 4 => .object "SpoonHates$Tape"
  | 5 => .int
  | 6 => .boolean
  | _ => .int
abbrev wsX30 : List Cond := u_ws RX3 TX3 8
theorem nmX3 : ∀ a, a < 8 → ∀ b, b < 8 → a ≠ b → (TX3 a).2.1 ≠ (TX3 b).2.1 := by decide +kernel
theorem tyX3_ok : ∀ k, k < 8 → parseFieldDescriptor (TX3 k).2.2.1 = some (tyX3 k) := by decide +kernel
abbrev cX3_init : ByteArray := prog_5_method_1_code
def yX3_init : MethodName := ⟨RX3, "<init>", "()V"⟩
abbrev cX3_readAll : ByteArray := prog_5_method_2_code
def yX3_readAll : MethodName := ⟨RX3, "readAll", "()Z"⟩
abbrev cX3_readLine : ByteArray := prog_5_method_3_code
def yX3_readLine : MethodName := ⟨RX3, "readLine", "(I)Z"⟩
abbrev cX3_lineOfName : ByteArray := prog_5_method_4_code
def yX3_lineOfName : MethodName := ⟨RX3, "lineOfName", "()I"⟩
abbrev cX3_addHelper : ByteArray := prog_5_method_5_code
def yX3_addHelper : MethodName := ⟨RX3, "addHelper", "(I)Z"⟩
abbrev cX3_readHatred : ByteArray := prog_5_method_6_code
def yX3_readHatred : MethodName := ⟨RX3, "readHatred", "(Z)Z"⟩
abbrev cX3_readPot : ByteArray := prog_5_method_7_code
def yX3_readPot : MethodName := ⟨RX3, "readPot", "()Z"⟩
abbrev cX3_readSlip : ByteArray := prog_5_method_8_code
def yX3_readSlip : MethodName := ⟨RX3, "readSlip", "()Z"⟩
abbrev cX3_readPlan : ByteArray := prog_5_method_9_code
def yX3_readPlan : MethodName := ⟨RX3, "readPlan", "()Z"⟩
abbrev cX3_readHelper : ByteArray := prog_5_method_10_code
def yX3_readHelper : MethodName := ⟨RX3, "readHelper", "(I)I"⟩
abbrev cX3_readNumber : ByteArray := prog_5_method_11_code
def yX3_readNumber : MethodName := ⟨RX3, "readNumber", "(II)I"⟩
abbrev cX3_readSemicolon : ByteArray := prog_5_method_12_code
def yX3_readSemicolon : MethodName := ⟨RX3, "readSemicolon", "()Z"⟩
abbrev cX3_fails : ByteArray := prog_5_method_13_code
def yX3_fails : MethodName := ⟨RX3, "fails", "(I)Z"⟩
def RX4 : String := "SpoonHates$Rows"
def TX4 : u_T := fun k => match k with
  | 0 => ("SpoonHates$Rows", "foundDone", "I", false)
  | 1 => ("SpoonHates$Rows", "foundHatred", "I", false)
  | 2 => ("SpoonHates$Rows", "foundLength", "I", false)
  | 3 => ("SpoonHates$Rows", "found", "[I", true)
  | 4 => ("SpoonHates$Rows", "pairs", "[I", true)
  | 5 => ("SpoonHates$Rows", "pairCount", "I", false)
  | 6 => ("SpoonHates$Rows", "length", "I", false)
  | 7 => ("SpoonHates$Rows", "chosen", "[I", true)
  | _ => ("SpoonHates$Rows", "behind", "[LSpoonHates$Soup;", true)
def tyX4 : Nat → FieldType := fun k => match k with
  | 0 => .int
  | 1 => .int
  | 2 => .int
  | 3 => .array .int
  | 4 => .array .int
  | 5 => .int
  | 6 => .int
  | 7 => .array .int
  | _ => .array (.object "SpoonHates$Soup")
abbrev wsX40 : List Cond := u_ws RX4 TX4 9
theorem nmX4 : ∀ a, a < 9 → ∀ b, b < 9 → a ≠ b → (TX4 a).2.1 ≠ (TX4 b).2.1 := by decide +kernel
theorem tyX4_ok : ∀ k, k < 9 → parseFieldDescriptor (TX4 k).2.2.1 = some (tyX4 k) := by decide +kernel
abbrev cX4_init : ByteArray := prog_6_method_1_code
def yX4_init : MethodName := ⟨RX4, "<init>", "()V"⟩
abbrev cX4_seekBest : ByteArray := prog_6_method_2_code
def yX4_seekBest : MethodName := ⟨RX4, "seekBest", "(LSpoonHates$Soup;I)V"⟩
abbrev cX4_seekFewest : ByteArray := prog_6_method_3_code
def yX4_seekFewest : MethodName := ⟨RX4, "seekFewest", "(LSpoonHates$Soup;)Z"⟩
abbrev cX4_foundPair : ByteArray := prog_6_method_4_code
def yX4_foundPair : MethodName := ⟨RX4, "foundPair", "(I)I"⟩
abbrev cX4_begin : ByteArray := prog_6_method_5_code
def yX4_begin : MethodName := ⟨RX4, "begin", "(LSpoonHates$Soup;I)V"⟩
abbrev cX4_listPairs : ByteArray := prog_6_method_6_code
def yX4_listPairs : MethodName := ⟨RX4, "listPairs", "(I)V"⟩
abbrev cX4_rowCount : ByteArray := prog_6_method_7_code
def yX4_rowCount : MethodName := ⟨RX4, "rowCount", "()I"⟩
abbrev cX4_advance : ByteArray := prog_6_method_8_code
def yX4_advance : MethodName := ⟨RX4, "advance", "()V"⟩
abbrev cX4_stirFrom : ByteArray := prog_6_method_9_code
def yX4_stirFrom : MethodName := ⟨RX4, "stirFrom", "(I)V"⟩
abbrev cX4_takeRow : ByteArray := prog_6_method_10_code
def yX4_takeRow : MethodName := ⟨RX4, "takeRow", "()V"⟩
def RX5 : String := "SpoonHates$Seen"
def TX5 : u_T := fun k => match k with
  | 0 => ("SpoonHates$Seen", "count", "I", false)
  | 1 => ("SpoonHates$Seen", "steps", "[I", true)
  | _ => ("SpoonHates$Seen", "turns", "[I", true)
def tyX5 : Nat → FieldType := fun k => match k with
  | 0 => .int
  | 1 => .array .int
  | _ => .array .int
abbrev wsX50 : List Cond := u_ws RX5 TX5 3
theorem nmX5 : ∀ a, a < 3 → ∀ b, b < 3 → a ≠ b → (TX5 a).2.1 ≠ (TX5 b).2.1 := by decide +kernel
theorem tyX5_ok : ∀ k, k < 3 → parseFieldDescriptor (TX5 k).2.2.1 = some (tyX5 k) := by decide +kernel
abbrev cX5_init : ByteArray := prog_7_method_1_code
def yX5_init : MethodName := ⟨RX5, "<init>", "()V"⟩
abbrev cX5_copyFrom : ByteArray := prog_7_method_2_code
def yX5_copyFrom : MethodName := ⟨RX5, "copyFrom", "(LSpoonHates$Seen;)V"⟩
abbrev cX5_isFull : ByteArray := prog_7_method_3_code
def yX5_isFull : MethodName := ⟨RX5, "isFull", "()Z"⟩
abbrev cX5_add : ByteArray := prog_7_method_4_code
def yX5_add : MethodName := ⟨RX5, "add", "(II)V"⟩
abbrev cX5_allows : ByteArray := prog_7_method_5_code
def yX5_allows : MethodName := ⟨RX5, "allows", "(II)Z"⟩
def RX6 : String := "SpoonHates$Sheet"
def TX6 : u_T := fun k => match k with
  | 0 => ("SpoonHates$Sheet", "length", "I", false)
  | 1 => ("SpoonHates$Sheet", "cells", "[I", true)
  | _ => ("SpoonHates$Sheet", "lane", "I", false)
def tyX6 : Nat → FieldType := fun k => match k with
  | 0 => .int
  | 1 => .array .int
  | _ => .int
abbrev wsX60 : List Cond := u_ws RX6 TX6 3
theorem nmX6 : ∀ a, a < 3 → ∀ b, b < 3 → a ≠ b → (TX6 a).2.1 ≠ (TX6 b).2.1 := by decide +kernel
theorem tyX6_ok : ∀ k, k < 3 → parseFieldDescriptor (TX6 k).2.2.1 = some (tyX6 k) := by decide +kernel
abbrev cX6_init : ByteArray := prog_8_method_1_code
def yX6_init : MethodName := ⟨RX6, "<init>", "()V"⟩
abbrev cX6_isNothing : ByteArray := prog_8_method_2_code
def yX6_isNothing : MethodName := ⟨RX6, "isNothing", "()Z"⟩
abbrev cX6_has : ByteArray := prog_8_method_3_code
def yX6_has : MethodName := ⟨RX6, "has", "(I)Z"⟩
abbrev cX6_renew : ByteArray := prog_8_method_4_code
def yX6_renew : MethodName := ⟨RX6, "renew", "(II)V"⟩
abbrev cX6_layDown : ByteArray := prog_8_method_5_code
def yX6_layDown : MethodName := ⟨RX6, "layDown", "(II)V"⟩
abbrev cX6_faultAs : ByteArray := prog_8_method_6_code
def yX6_faultAs : MethodName := ⟨RX6, "faultAs", "(I)I"⟩
def RX7 : String := "SpoonHates$Slips"
def TX7 : u_T := fun k => match k with
  | 0 => ("SpoonHates$Slips", "count", "I", false)
  | 1 => ("SpoonHates$Slips", "used", "I", false)
  | 2 => ("SpoonHates$Slips", "helpers", "[I", true)
  | 3 => ("SpoonHates$Slips", "others", "[I", true)
  | _ => ("SpoonHates$Slips", "causes", "[I", true)
def tyX7 : Nat → FieldType := fun k => match k with
  | 0 => .int
  | 1 => .int
  | 2 => .array .int
  | 3 => .array .int
  | _ => .array .int
abbrev wsX70 : List Cond := u_ws RX7 TX7 5
theorem nmX7 : ∀ a, a < 5 → ∀ b, b < 5 → a ≠ b → (TX7 a).2.1 ≠ (TX7 b).2.1 := by decide +kernel
theorem tyX7_ok : ∀ k, k < 5 → parseFieldDescriptor (TX7 k).2.2.1 = some (tyX7 k) := by decide +kernel
abbrev cX7_init : ByteArray := prog_9_method_1_code
def yX7_init : MethodName := ⟨RX7, "<init>", "()V"⟩
abbrev cX7_copyFrom : ByteArray := prog_9_method_2_code
def yX7_copyFrom : MethodName := ⟨RX7, "copyFrom", "(LSpoonHates$Slips;)V"⟩
abbrev cX7_has : ByteArray := prog_9_method_3_code
def yX7_has : MethodName := ⟨RX7, "has", "(I)Z"⟩
abbrev cX7_isUsed : ByteArray := prog_9_method_4_code
def yX7_isUsed : MethodName := ⟨RX7, "isUsed", "(I)Z"⟩
abbrev cX7_isFull : ByteArray := prog_9_method_5_code
def yX7_isFull : MethodName := ⟨RX7, "isFull", "()Z"⟩
abbrev cX7_add : ByteArray := prog_9_method_6_code
def yX7_add : MethodName := ⟨RX7, "add", "(III)V"⟩
abbrev cX7_worsen : ByteArray := prog_9_method_7_code
def yX7_worsen : MethodName := ⟨RX7, "worsen", "(LSpoonHates$Soup;I)I"⟩
def RX8 : String := "SpoonHates$Soup"
def TX8 : u_T := fun k => match k with
  | 0 => ("SpoonHates$Soup", "helpers", "I", false)
  | 1 => ("SpoonHates$Soup", "need", "I", false)
  | 2 => ("SpoonHates$Soup", "noon", "I", false)
  | 3 => ("SpoonHates$Soup", "step", "I", false)
  | 4 => ("SpoonHates$Soup", "done", "I", false)
  | 5 => ("SpoonHates$Soup", "isSet", "Z", false)
  | 6 => ("SpoonHates$Soup", "kinds", "[I", true)
  | _ => ("SpoonHates$Soup", "hatreds", "[I", true)
def tyX8 : Nat → FieldType := fun k => match k with
  | 0 => .int
  | 1 => .int
  | 2 => .int
  | 3 => .int
  | 4 => .int
  | 5 => .boolean
  | 6 => .array .int
  | _ => .array .int
abbrev wsX80 : List Cond := u_ws RX8 TX8 8
theorem nmX8 : ∀ a, a < 8 → ∀ b, b < 8 → a ≠ b → (TX8 a).2.1 ≠ (TX8 b).2.1 := by decide +kernel
theorem tyX8_ok : ∀ k, k < 8 → parseFieldDescriptor (TX8 k).2.2.1 = some (tyX8 k) := by decide +kernel
abbrev cX8_init : ByteArray := prog_10_method_1_code
def yX8_init : MethodName := ⟨RX8, "<init>", "()V"⟩
abbrev cX8_copyFrom : ByteArray := prog_10_method_2_code
def yX8_copyFrom : MethodName := ⟨RX8, "copyFrom", "(LSpoonHates$Soup;)V"⟩
abbrev cX8_isHelper : ByteArray := prog_10_method_3_code
def yX8_isHelper : MethodName := ⟨RX8, "isHelper", "(I)Z"⟩
abbrev cX8_areTwo : ByteArray := prog_10_method_4_code
def yX8_areTwo : MethodName := ⟨RX8, "areTwo", "(II)Z"⟩
abbrev cX8_hatredOf : ByteArray := prog_10_method_5_code
def yX8_hatredOf : MethodName := ⟨RX8, "hatredOf", "(II)I"⟩
abbrev cX8_setHatred : ByteArray := prog_10_method_6_code
def yX8_setHatred : MethodName := ⟨RX8, "setHatred", "(III)V"⟩
abbrev cX8_feelingOf : ByteArray := prog_10_method_7_code
def yX8_feelingOf : MethodName := ⟨RX8, "feelingOf", "(II)I"⟩
abbrev cX8_turnOf : ByteArray := prog_10_method_8_code
def yX8_turnOf : MethodName := ⟨RX8, "turnOf", "(II)I"⟩
abbrev cX8_canBeStirred : ByteArray := prog_10_method_9_code
def yX8_canBeStirred : MethodName := ⟨RX8, "canBeStirred", "()Z"⟩
abbrev cX8_stirOnce : ByteArray := prog_10_method_10_code
def yX8_stirOnce : MethodName := ⟨RX8, "stirOnce", "(II)V"⟩
abbrev cX8_cool : ByteArray := prog_10_method_11_code
def yX8_cool : MethodName := ⟨RX8, "cool", "(II)V"⟩
abbrev cX8_stirsIfMay : ByteArray := prog_10_method_12_code
def yX8_stirsIfMay : MethodName := ⟨RX8, "stirsIfMay", "(II)Z"⟩
abbrev cX8_forgiveAll : ByteArray := prog_10_method_13_code
def yX8_forgiveAll : MethodName := ⟨RX8, "forgiveAll", "(I)I"⟩
abbrev cX8_allHatred : ByteArray := prog_10_method_14_code
def yX8_allHatred : MethodName := ⟨RX8, "allHatred", "()I"⟩
def RX9 : String := "SpoonHates$Tape"
def TX9 : u_T := fun k => match k with
  | 0 => ("SpoonHates$Tape", "bytes", "[B", true)
  | 1 => ("SpoonHates$Tape", "length", "I", false)
  | 2 => ("SpoonHates$Tape", "start", "I", false)
  | _ => ("SpoonHates$Tape", "next", "I", false)
def tyX9 : Nat → FieldType := fun k => match k with
  | 0 => .array .byte
  | 1 => .int
  | 2 => .int
  | _ => .int
abbrev wsX90 : List Cond := u_ws RX9 TX9 4
theorem nmX9 : ∀ a, a < 4 → ∀ b, b < 4 → a ≠ b → (TX9 a).2.1 ≠ (TX9 b).2.1 := by decide +kernel
theorem tyX9_ok : ∀ k, k < 4 → parseFieldDescriptor (TX9 k).2.2.1 = some (tyX9 k) := by decide +kernel
abbrev cX9_init : ByteArray := prog_11_method_1_code
def yX9_init : MethodName := ⟨RX9, "<init>", "()V"⟩
abbrev cX9_rewind : ByteArray := prog_11_method_2_code
def yX9_rewind : MethodName := ⟨RX9, "rewind", "()V"⟩
abbrev cX9_readToken : ByteArray := prog_11_method_3_code
def yX9_readToken : MethodName := ⟨RX9, "readToken", "()I"⟩
abbrev cX9_number : ByteArray := prog_11_method_4_code
def yX9_number : MethodName := ⟨RX9, "number", "()I"⟩
abbrev cX9_isName : ByteArray := prog_11_method_5_code
def yX9_isName : MethodName := ⟨RX9, "isName", "(Ljava/lang/String;)Z"⟩
def RX10 : String := "SpoonHates"
def TX10 : u_T := fun k => match k with
  | 0 => ("SpoonHates", "now", "LSpoonHates$Kitchen;", true)
  | 1 => ("SpoonHates", "images", "[LSpoonHates$Kitchen;", true)
  | 2 => ("SpoonHates", "kept", "I", false)
  | 3 => ("SpoonHates", "reader", "LSpoonHates$Reader;", true)
  | 4 => ("SpoonHates", "tape", "LSpoonHates$Tape;", true)
  | 5 => ("SpoonHates", "trial", "LSpoonHates$Soup;", true)
  | 6 => ("SpoonHates", "rows", "LSpoonHates$Rows;", true)
  | 7 => ("SpoonHates", "pairing", "LSpoonHates$Match;", true)
  | 8 => ("SpoonHates", "sheets", "[LSpoonHates$Sheet;", true)
  | 9 => ("SpoonHates", "textFault", "I", false)
  | _ => ("SpoonHates", "sheetFault", "I", false)
def tyX10 : Nat → FieldType := fun k => match k with
  | 0 => .object "SpoonHates$Kitchen"
  | 1 => .array (.object "SpoonHates$Kitchen")
  | 2 => .int
  | 3 => .object "SpoonHates$Reader"
  | 4 => .object "SpoonHates$Tape"
  | 5 => .object "SpoonHates$Soup"
  | 6 => .object "SpoonHates$Rows"
  | 7 => .object "SpoonHates$Match"
  | 8 => .array (.object "SpoonHates$Sheet")
  | 9 => .int
  | _ => .int
abbrev wsX100 : List Cond := u_ws RX10 TX10 11
theorem nmX10 : ∀ a, a < 11 → ∀ b, b < 11 → a ≠ b → (TX10 a).2.1 ≠ (TX10 b).2.1 := by decide +kernel
theorem tyX10_ok : ∀ k, k < 11 → parseFieldDescriptor (TX10 k).2.2.1 = some (tyX10 k) := by decide +kernel
abbrev cX10_init : ByteArray := prog_1_method_1_code
def yX10_init : MethodName := ⟨RX10, "<init>", "()V"⟩
abbrev cX10_feed : ByteArray := prog_1_method_2_code
def yX10_feed : MethodName := ⟨RX10, "feed", "(I)I"⟩
abbrev cX10_end : ByteArray := prog_1_method_3_code
def yX10_end : MethodName := ⟨RX10, "end", "(I)I"⟩
abbrev cX10_text : ByteArray := prog_1_method_4_code
def yX10_text : MethodName := ⟨RX10, "text", "()I"⟩
abbrev cX10_fault : ByteArray := prog_1_method_5_code
def yX10_fault : MethodName := ⟨RX10, "fault", "()I"⟩
abbrev cX10_rule : ByteArray := prog_1_method_6_code
def yX10_rule : MethodName := ⟨RX10, "rule", "(I)I"⟩
abbrev cX10_helper : ByteArray := prog_1_method_7_code
def yX10_helper : MethodName := ⟨RX10, "helper", "(I)I"⟩
abbrev cX10_hatred : ByteArray := prog_1_method_8_code
def yX10_hatred : MethodName := ⟨RX10, "hatred", "(III)I"⟩
abbrev cX10_slip : ByteArray := prog_1_method_9_code
def yX10_slip : MethodName := ⟨RX10, "slip", "(II)I"⟩
abbrev cX10_plan : ByteArray := prog_1_method_10_code
def yX10_plan : MethodName := ⟨RX10, "plan", "(I)I"⟩
abbrev cX10_hate : ByteArray := prog_1_method_11_code
def yX10_hate : MethodName := ⟨RX10, "hate", "(III)I"⟩
abbrev cX10_use : ByteArray := prog_1_method_12_code
def yX10_use : MethodName := ⟨RX10, "use", "(I)I"⟩
abbrev cX10_tell : ByteArray := prog_1_method_13_code
def yX10_tell : MethodName := ⟨RX10, "tell", "(II)I"⟩
abbrev cX10_forgive : ByteArray := prog_1_method_14_code
def yX10_forgive : MethodName := ⟨RX10, "forgive", "(I)I"⟩
abbrev cX10_teach : ByteArray := prog_1_method_15_code
def yX10_teach : MethodName := ⟨RX10, "teach", "(II)I"⟩
abbrev cX10_set : ByteArray := prog_1_method_16_code
def yX10_set : MethodName := ⟨RX10, "set", "(II)I"⟩
abbrev cX10_changeNeed : ByteArray := prog_1_method_17_code
def yX10_changeNeed : MethodName := ⟨RX10, "changeNeed", "(I)I"⟩
abbrev cX10_changeNoon : ByteArray := prog_1_method_18_code
def yX10_changeNoon : MethodName := ⟨RX10, "changeNoon", "(I)I"⟩
abbrev cX10_plans : ByteArray := prog_1_method_19_code
def yX10_plans : MethodName := ⟨RX10, "plans", "(II)I"⟩
abbrev cX10_cut : ByteArray := prog_1_method_20_code
def yX10_cut : MethodName := ⟨RX10, "cut", "(I)I"⟩
abbrev cX10_turn : ByteArray := prog_1_method_21_code
def yX10_turn : MethodName := ⟨RX10, "turn", "(II)I"⟩
abbrev cX10_stir : ByteArray := prog_1_method_22_code
def yX10_stir : MethodName := ⟨RX10, "stir", "(II)I"⟩
abbrev cX10_runs : ByteArray := prog_1_method_23_code
def yX10_runs : MethodName := ⟨RX10, "runs", "(I)I"⟩
abbrev cX10_ahead : ByteArray := prog_1_method_24_code
def yX10_ahead : MethodName := ⟨RX10, "ahead", "(III)I"⟩
abbrev cX10_lasts : ByteArray := prog_1_method_25_code
def yX10_lasts : MethodName := ⟨RX10, "lasts", "(II)I"⟩
abbrev cX10_three : ByteArray := prog_1_method_26_code
def yX10_three : MethodName := ⟨RX10, "three", "(III)I"⟩
abbrev cX10_leastRound : ByteArray := prog_1_method_27_code
def yX10_leastRound : MethodName := ⟨RX10, "leastRound", "(III)I"⟩
abbrev cX10_best : ByteArray := prog_1_method_28_code
def yX10_best : MethodName := ⟨RX10, "best", "(II)I"⟩
abbrev cX10_few : ByteArray := prog_1_method_29_code
def yX10_few : MethodName := ⟨RX10, "few", "(I)I"⟩
abbrev cX10_asksPlaceInRow : ByteArray := prog_1_method_30_code
def yX10_asksPlaceInRow : MethodName := ⟨RX10, "asksPlaceInRow", "(I)Z"⟩
abbrev cX10_slips : ByteArray := prog_1_method_31_code
def yX10_slips : MethodName := ⟨RX10, "slips", "(I)I"⟩
abbrev cX10_fewestSlips : ByteArray := prog_1_method_32_code
def yX10_fewestSlips : MethodName := ⟨RX10, "fewestSlips", "()I"⟩
abbrev cX10_sufficeForNeed : ByteArray := prog_1_method_33_code
def yX10_sufficeForNeed : MethodName := ⟨RX10, "sufficeForNeed", "(I)Z"⟩
abbrev cX10_mate : ByteArray := prog_1_method_34_code
def yX10_mate : MethodName := ⟨RX10, "mate", "(I)I"⟩
abbrev cX10_match : ByteArray := prog_1_method_35_code
def yX10_match : MethodName := ⟨RX10, "match", "(I)I"⟩
abbrev cX10_see : ByteArray := prog_1_method_36_code
def yX10_see : MethodName := ⟨RX10, "see", "(II)I"⟩
abbrev cX10_forget : ByteArray := prog_1_method_37_code
def yX10_forget : MethodName := ⟨RX10, "forget", "(I)I"⟩
abbrev cX10_fits : ByteArray := prog_1_method_38_code
def yX10_fits : MethodName := ⟨RX10, "fits", "(III)I"⟩
abbrev cX10_wouldBeAsSeen : ByteArray := prog_1_method_39_code
def yX10_wouldBeAsSeen : MethodName := ⟨RX10, "wouldBeAsSeen", "(III)Z"⟩
abbrev cX10_forgave : ByteArray := prog_1_method_40_code
def yX10_forgave : MethodName := ⟨RX10, "forgave", "(I)I"⟩
abbrev cX10_luck : ByteArray := prog_1_method_41_code
def yX10_luck : MethodName := ⟨RX10, "luck", "(IIII)J"⟩
abbrev cX10_mean : ByteArray := prog_1_method_42_code
def yX10_mean : MethodName := ⟨RX10, "mean", "(IIII)J"⟩
abbrev cX10_isLoveAsked : ByteArray := prog_1_method_43_code
def yX10_isLoveAsked : MethodName := ⟨RX10, "isLoveAsked", "(IIII)Z"⟩
abbrev cX10_byLove : ByteArray := prog_1_method_44_code
def yX10_byLove : MethodName := ⟨RX10, "byLove", "(IIIIZ)J"⟩
abbrev cX10_worthOfTrial : ByteArray := prog_1_method_45_code
def yX10_worthOfTrial : MethodName := ⟨RX10, "worthOfTrial", "(Z)I"⟩
abbrev cX10_commonDivisor : ByteArray := prog_1_method_46_code
def yX10_commonDivisor : MethodName := ⟨RX10, "commonDivisor", "(JJ)J"⟩
abbrev cX10_drift : ByteArray := prog_1_method_47_code
def yX10_drift : MethodName := ⟨RX10, "drift", "(III)I"⟩
abbrev cX10_grow : ByteArray := prog_1_method_48_code
def yX10_grow : MethodName := ⟨RX10, "grow", "(I)I"⟩
abbrev cX10_bitsOf : ByteArray := prog_1_method_49_code
def yX10_bitsOf : MethodName := ⟨RX10, "bitsOf", "(I)I"⟩
abbrev cX10_keep : ByteArray := prog_1_method_50_code
def yX10_keep : MethodName := ⟨RX10, "keep", "(I)I"⟩
abbrev cX10_back : ByteArray := prog_1_method_51_code
def yX10_back : MethodName := ⟨RX10, "back", "(I)I"⟩
abbrev cX10_sheet : ByteArray := prog_1_method_52_code
def yX10_sheet : MethodName := ⟨RX10, "sheet", "(III)I"⟩
abbrev cX10_lay : ByteArray := prog_1_method_53_code
def yX10_lay : MethodName := ⟨RX10, "lay", "(III)I"⟩
abbrev cX10_read : ByteArray := prog_1_method_54_code
def yX10_read : MethodName := ⟨RX10, "read", "(IIII)I"⟩
abbrev cX10_torn : ByteArray := prog_1_method_55_code
def yX10_torn : MethodName := ⟨RX10, "torn", "()I"⟩
abbrev cX10_count : ByteArray := prog_1_method_56_code
def yX10_count : MethodName := ⟨RX10, "count", "(I)I"⟩
abbrev cX10_isWithin : ByteArray := prog_1_method_57_code
def yX10_isWithin : MethodName := ⟨RX10, "isWithin", "(III)Z"⟩
def RX11 : String := "SpoonHatesModel"
def TX11 : u_T := fun k => match k with
  | 0 => ("SpoonHatesModel", "st", "[I", true)
  | 1 => ("SpoonHatesModel", "at", "[I", true)
  | 2 => ("SpoonHatesModel", "isKept", "[Z", true)
  | 3 => ("SpoonHatesModel", "helpers", "I", false)
  | 4 => ("SpoonHatesModel", "slipMany", "I", false)
  | 5 => ("SpoonHatesModel", "slipOnes", "[I", true)
  | 6 => ("SpoonHatesModel", "slipOthers", "[I", true)
  | 7 => ("SpoonHatesModel", "slipCauses", "[I", true)
  | 8 => ("SpoonHatesModel", "draft", "[I", true)
  | 9 => ("SpoonHatesModel", "dHelpers", "I", false)
  | 10 => ("SpoonHatesModel", "dSlips", "I", false)
  | 11 => ("SpoonHatesModel", "dSlipOnes", "[I", true)
  | 12 => ("SpoonHatesModel", "dSlipOthers", "[I", true)
  | 13 => ("SpoonHatesModel", "dSlipCauses", "[I", true)
  | 14 => ("SpoonHatesModel", "hasPot", "Z", false)
  | 15 => ("SpoonHatesModel", "toldHates", "I", false)
  | 16 => ("SpoonHatesModel", "highest", "I", false)
  | 17 => ("SpoonHatesModel", "tape", "[I", true)
  | 18 => ("SpoonHatesModel", "taped", "I", false)
  | 19 => ("SpoonHatesModel", "pos", "I", false)
  | 20 => ("SpoonHatesModel", "from", "I", false)
  | 21 => ("SpoonHatesModel", "sort", "I", false)
  | 22 => ("SpoonHatesModel", "value", "I", false)
  | 23 => ("SpoonHatesModel", "fault", "I", false)
  | 24 => ("SpoonHatesModel", "wrongAt", "I", false)
  | 25 => ("SpoonHatesModel", "passedOver", "I", false)
  | 26 => ("SpoonHatesModel", "allPairs", "[I", true)
  | 27 => ("SpoonHatesModel", "with", "[I", true)
  | 28 => ("SpoonHatesModel", "all", "J", false)
  | 29 => ("SpoonHatesModel", "doneSum", "J", false)
  | 30 => ("SpoonHatesModel", "enoughSum", "J", false)
  | 31 => ("SpoonHatesModel", "lanes", "[I", true)
  | 32 => ("SpoonHatesModel", "sizes", "[I", true)
  | 33 => ("SpoonHatesModel", "cells", "[I", true)
  | 34 => ("SpoonHatesModel", "torn", "I", false)
  | _ => ("SpoonHatesModel", "had", "[I", true)
def tyX11 : Nat → FieldType := fun k => match k with
  | 0 => .array .int
  | 1 => .array .int
  | 2 => .array .boolean
  | 3 => .int
  | 4 => .int
  | 5 => .array .int
  | 6 => .array .int
  | 7 => .array .int
  | 8 => .array .int
  | 9 => .int
  | 10 => .int
  | 11 => .array .int
  | 12 => .array .int
  | 13 => .array .int
  | 14 => .boolean
  | 15 => .int
  | 16 => .int
  | 17 => .array .int
  | 18 => .int
  | 19 => .int
  | 20 => .int
  | 21 => .int
  | 22 => .int
  | 23 => .int
  | 24 => .int
  | 25 => .int
  | 26 => .array .int
  | 27 => .array .int
  | 28 => .long
  | 29 => .long
  | 30 => .long
  | 31 => .array .int
  | 32 => .array .int
  | 33 => .array .int
  | 34 => .int
  | _ => .array .int
abbrev wsX110 : List Cond := u_ws RX11 TX11 36
theorem nmX11 : ∀ a, a < 36 → ∀ b, b < 36 → a ≠ b → (TX11 a).2.1 ≠ (TX11 b).2.1 := by decide +kernel
theorem tyX11_ok : ∀ k, k < 36 → parseFieldDescriptor (TX11 k).2.2.1 = some (tyX11 k) := by decide +kernel
abbrev cX11_init : ByteArray := prog_13_method_1_code
def yX11_init : MethodName := ⟨RX11, "<init>", "()V"⟩
abbrev cX11_in : ByteArray := prog_13_method_3_code
def yX11_in : MethodName := ⟨RX11, "in", "(JJJ)Z"⟩
abbrev cX11_flag : ByteArray := prog_13_method_4_code
def yX11_flag : MethodName := ⟨RX11, "flag", "(Z)I"⟩
abbrev cX11_firstDraft : ByteArray := prog_13_method_5_code
def yX11_firstDraft : MethodName := ⟨RX11, "firstDraft", "()V"⟩
abbrev cX11_keepDraft : ByteArray := prog_13_method_6_code
def yX11_keepDraft : MethodName := ⟨RX11, "keepDraft", "()V"⟩
abbrev cX11_feed : ByteArray := prog_13_method_7_code
def yX11_feed : MethodName := ⟨RX11, "feed", "(I)I"⟩
abbrev cX11_end : ByteArray := prog_13_method_8_code
def yX11_end : MethodName := ⟨RX11, "end", "(I)I"⟩
abbrev cX11_needs : ByteArray := prog_13_method_9_code
def yX11_needs : MethodName := ⟨RX11, "needs", "(ZI)V"⟩
abbrev cX11_byteAt : ByteArray := prog_13_method_10_code
def yX11_byteAt : MethodName := ⟨RX11, "byteAt", "(I)I"⟩
abbrev cX11_is : ByteArray := prog_13_method_11_code
def yX11_is : MethodName := ⟨RX11, "is", "(IIII)Z"⟩
abbrev cX11_ends : ByteArray := prog_13_method_12_code
def yX11_ends : MethodName := ⟨RX11, "ends", "(IIII)Z"⟩
abbrev cX11_lineNow : ByteArray := prog_13_method_13_code
def yX11_lineNow : MethodName := ⟨RX11, "lineNow", "()I"⟩
abbrev cX11_next : ByteArray := prog_13_method_14_code
def yX11_next : MethodName := ⟨RX11, "next", "()V"⟩
abbrev cX11_looked : ByteArray := prog_13_method_15_code
def yX11_looked : MethodName := ⟨RX11, "looked", "(II)I"⟩
abbrev cX11_readNumber : ByteArray := prog_13_method_16_code
def yX11_readNumber : MethodName := ⟨RX11, "readNumber", "(II)I"⟩
abbrev cX11_readHelper : ByteArray := prog_13_method_17_code
def yX11_readHelper : MethodName := ⟨RX11, "readHelper", "()I"⟩
abbrev cX11_readOther : ByteArray := prog_13_method_18_code
def yX11_readOther : MethodName := ⟨RX11, "readOther", "(IZZ)I"⟩
abbrev cX11_readHate : ByteArray := prog_13_method_19_code
def yX11_readHate : MethodName := ⟨RX11, "readHate", "(Z)V"⟩
abbrev cX11_readSlip : ByteArray := prog_13_method_20_code
def yX11_readSlip : MethodName := ⟨RX11, "readSlip", "()V"⟩
abbrev cX11_pairOf : ByteArray := prog_13_method_21_code
def yX11_pairOf : MethodName := ⟨RX11, "pairOf", "(II)I"⟩
abbrev cX11_readPlan : ByteArray := prog_13_method_22_code
def yX11_readPlan : MethodName := ⟨RX11, "readPlan", "()V"⟩
abbrev cX11_readLineOf : ByteArray := prog_13_method_23_code
def yX11_readLineOf : MethodName := ⟨RX11, "readLineOf", "(I)V"⟩
abbrev cX11_readLine : ByteArray := prog_13_method_24_code
def yX11_readLine : MethodName := ⟨RX11, "readLine", "()V"⟩
abbrev cX11_text : ByteArray := prog_13_method_25_code
def yX11_text : MethodName := ⟨RX11, "text", "()I"⟩
abbrev cX11_fault : ByteArray := prog_13_method_26_code
def yX11_fault : MethodName := ⟨RX11, "fault", "()I"⟩
abbrev cX11_isHelper : ByteArray := prog_13_method_27_code
def yX11_isHelper : MethodName := ⟨RX11, "isHelper", "(I)Z"⟩
abbrev cX11_areTwo : ByteArray := prog_13_method_28_code
def yX11_areTwo : MethodName := ⟨RX11, "areTwo", "(II)Z"⟩
abbrev cX11_isSlip : ByteArray := prog_13_method_29_code
def yX11_isSlip : MethodName := ⟨RX11, "isSlip", "(I)Z"⟩
abbrev cX11_isPart : ByteArray := prog_13_method_30_code
def yX11_isPart : MethodName := ⟨RX11, "isPart", "(I)Z"⟩
abbrev cX11_starts : ByteArray := prog_13_method_31_code
def yX11_starts : MethodName := ⟨RX11, "starts", "()V"⟩
abbrev cX11_settles : ByteArray := prog_13_method_32_code
def yX11_settles : MethodName := ⟨RX11, "settles", "()V"⟩
abbrev cX11_hates : ByteArray := prog_13_method_33_code
def yX11_hates : MethodName := ⟨RX11, "hates", "(II)I"⟩
abbrev cX11_becomesHate : ByteArray := prog_13_method_34_code
def yX11_becomesHate : MethodName := ⟨RX11, "becomesHate", "(III)V"⟩
abbrev cX11_feels : ByteArray := prog_13_method_35_code
def yX11_feels : MethodName := ⟨RX11, "feels", "(II)I"⟩
abbrev cX11_least : ByteArray := prog_13_method_36_code
def yX11_least : MethodName := ⟨RX11, "least", "(II)I"⟩
abbrev cX11_turnOf : ByteArray := prog_13_method_37_code
def yX11_turnOf : MethodName := ⟨RX11, "turnOf", "(II)I"⟩
abbrev cX11_coolsBy : ByteArray := prog_13_method_38_code
def yX11_coolsBy : MethodName := ⟨RX11, "coolsBy", "(I)I"⟩
abbrev cX11_coolsOff : ByteArray := prog_13_method_39_code
def yX11_coolsOff : MethodName := ⟨RX11, "coolsOff", "(II)V"⟩
abbrev cX11_stirsOn : ByteArray := prog_13_method_40_code
def yX11_stirsOn : MethodName := ⟨RX11, "stirsOn", "(II)Z"⟩
abbrev cX11_stirs : ByteArray := prog_13_method_41_code
def yX11_stirs : MethodName := ⟨RX11, "stirs", "(II)Z"⟩
abbrev cX11_allHate : ByteArray := prog_13_method_42_code
def yX11_allHate : MethodName := ⟨RX11, "allHate", "()I"⟩
abbrev cX11_plansGo : ByteArray := prog_13_method_43_code
def yX11_plansGo : MethodName := ⟨RX11, "plansGo", "()V"⟩
abbrev cX11_rule : ByteArray := prog_13_method_44_code
def yX11_rule : MethodName := ⟨RX11, "rule", "(I)I"⟩
abbrev cX11_helper : ByteArray := prog_13_method_45_code
def yX11_helper : MethodName := ⟨RX11, "helper", "(I)I"⟩
abbrev cX11_hatred : ByteArray := prog_13_method_46_code
def yX11_hatred : MethodName := ⟨RX11, "hatred", "(III)I"⟩
abbrev cX11_slip : ByteArray := prog_13_method_47_code
def yX11_slip : MethodName := ⟨RX11, "slip", "(II)I"⟩
abbrev cX11_plan : ByteArray := prog_13_method_48_code
def yX11_plan : MethodName := ⟨RX11, "plan", "(I)I"⟩
abbrev cX11_becomes : ByteArray := prog_13_method_49_code
def yX11_becomes : MethodName := ⟨RX11, "becomes", "(II)I"⟩
abbrev cX11_hate : ByteArray := prog_13_method_50_code
def yX11_hate : MethodName := ⟨RX11, "hate", "(III)I"⟩
abbrev cX11_uses : ByteArray := prog_13_method_51_code
def yX11_uses : MethodName := ⟨RX11, "uses", "(I)V"⟩
abbrev cX11_use : ByteArray := prog_13_method_52_code
def yX11_use : MethodName := ⟨RX11, "use", "(I)I"⟩
abbrev cX11_tell : ByteArray := prog_13_method_53_code
def yX11_tell : MethodName := ⟨RX11, "tell", "(II)I"⟩
abbrev cX11_forgive : ByteArray := prog_13_method_54_code
def yX11_forgive : MethodName := ⟨RX11, "forgive", "(I)I"⟩
abbrev cX11_teach : ByteArray := prog_13_method_55_code
def yX11_teach : MethodName := ⟨RX11, "teach", "(II)I"⟩
abbrev cX11_set : ByteArray := prog_13_method_56_code
def yX11_set : MethodName := ⟨RX11, "set", "(II)I"⟩
abbrev cX11_plans : ByteArray := prog_13_method_57_code
def yX11_plans : MethodName := ⟨RX11, "plans", "(II)I"⟩
abbrev cX11_cut : ByteArray := prog_13_method_58_code
def yX11_cut : MethodName := ⟨RX11, "cut", "(I)I"⟩
abbrev cX11_turn : ByteArray := prog_13_method_59_code
def yX11_turn : MethodName := ⟨RX11, "turn", "(II)I"⟩
abbrev cX11_stir : ByteArray := prog_13_method_60_code
def yX11_stir : MethodName := ⟨RX11, "stir", "(II)I"⟩
abbrev cX11_runs : ByteArray := prog_13_method_61_code
def yX11_runs : MethodName := ⟨RX11, "runs", "(I)I"⟩
abbrev cX11_ahead : ByteArray := prog_13_method_62_code
def yX11_ahead : MethodName := ⟨RX11, "ahead", "(III)I"⟩
abbrev cX11_lasts : ByteArray := prog_13_method_63_code
def yX11_lasts : MethodName := ⟨RX11, "lasts", "(II)I"⟩
abbrev cX11_three : ByteArray := prog_13_method_64_code
def yX11_three : MethodName := ⟨RX11, "three", "(III)I"⟩
abbrev cX11_pairs : ByteArray := prog_13_method_65_code
def yX11_pairs : MethodName := ⟨RX11, "pairs", "()I"⟩
abbrev cX11_pairAt : ByteArray := prog_13_method_66_code
def yX11_pairAt : MethodName := ⟨RX11, "pairAt", "(I)I"⟩
abbrev cX11_rowsOf : ByteArray := prog_13_method_67_code
def yX11_rowsOf : MethodName := ⟨RX11, "rowsOf", "(I)I"⟩
abbrev cX11_pairIn : ByteArray := prog_13_method_68_code
def yX11_pairIn : MethodName := ⟨RX11, "pairIn", "(III)I"⟩
abbrev cX11_stirsRow : ByteArray := prog_13_method_69_code
def yX11_stirsRow : MethodName := ⟨RX11, "stirsRow", "(II)V"⟩
abbrev cX11_findPairs : ByteArray := prog_13_method_70_code
def yX11_findPairs : MethodName := ⟨RX11, "findPairs", "()V"⟩
abbrev cX11_best : ByteArray := prog_13_method_71_code
def yX11_best : MethodName := ⟨RX11, "best", "(II)I"⟩
abbrev cX11_few : ByteArray := prog_13_method_72_code
def yX11_few : MethodName := ⟨RX11, "few", "(I)I"⟩
abbrev cX11_bitsOf : ByteArray := prog_13_method_73_code
def yX11_bitsOf : MethodName := ⟨RX11, "bitsOf", "(I)I"⟩
abbrev cX11_slips : ByteArray := prog_13_method_74_code
def yX11_slips : MethodName := ⟨RX11, "slips", "(I)I"⟩
abbrev cX11_mate : ByteArray := prog_13_method_75_code
def yX11_mate : MethodName := ⟨RX11, "mate", "(I)I"⟩
abbrev cX11_codes : ByteArray := prog_13_method_76_code
def yX11_codes : MethodName := ⟨RX11, "codes", "()I"⟩
abbrev cX11_isMatch : ByteArray := prog_13_method_77_code
def yX11_isMatch : MethodName := ⟨RX11, "isMatch", "(I)Z"⟩
abbrev cX11_turnsNow : ByteArray := prog_13_method_78_code
def yX11_turnsNow : MethodName := ⟨RX11, "turnsNow", "()I"⟩
abbrev cX11_match : ByteArray := prog_13_method_79_code
def yX11_match : MethodName := ⟨RX11, "match", "(I)I"⟩
abbrev cX11_see : ByteArray := prog_13_method_80_code
def yX11_see : MethodName := ⟨RX11, "see", "(II)I"⟩
abbrev cX11_forget : ByteArray := prog_13_method_81_code
def yX11_forget : MethodName := ⟨RX11, "forget", "(I)I"⟩
abbrev cX11_isSo : ByteArray := prog_13_method_82_code
def yX11_isSo : MethodName := ⟨RX11, "isSo", "(IIII)Z"⟩
abbrev cX11_fits : ByteArray := prog_13_method_83_code
def yX11_fits : MethodName := ⟨RX11, "fits", "(III)I"⟩
abbrev cX11_forgave : ByteArray := prog_13_method_84_code
def yX11_forgave : MethodName := ⟨RX11, "forgave", "(I)I"⟩
abbrev cX11_common : ByteArray := prog_13_method_85_code
def yX11_common : MethodName := ⟨RX11, "common", "(JJ)J"⟩
abbrev cX11_told : ByteArray := prog_13_method_86_code
def yX11_told : MethodName := ⟨RX11, "told", "(JJI)J"⟩
abbrev cX11_adds : ByteArray := prog_13_method_87_code
def yX11_adds : MethodName := ⟨RX11, "adds", "(J)V"⟩
abbrev cX11_findLove : ByteArray := prog_13_method_88_code
def yX11_findLove : MethodName := ⟨RX11, "findLove", "(III)V"⟩
abbrev cX11_luck : ByteArray := prog_13_method_89_code
def yX11_luck : MethodName := ⟨RX11, "luck", "(IIII)J"⟩
abbrev cX11_mean : ByteArray := prog_13_method_90_code
def yX11_mean : MethodName := ⟨RX11, "mean", "(IIII)J"⟩
abbrev cX11_drift : ByteArray := prog_13_method_91_code
def yX11_drift : MethodName := ⟨RX11, "drift", "(III)I"⟩
abbrev cX11_copies : ByteArray := prog_13_method_92_code
def yX11_copies : MethodName := ⟨RX11, "copies", "(II)V"⟩
abbrev cX11_keep : ByteArray := prog_13_method_93_code
def yX11_keep : MethodName := ⟨RX11, "keep", "(I)I"⟩
abbrev cX11_back : ByteArray := prog_13_method_94_code
def yX11_back : MethodName := ⟨RX11, "back", "(I)I"⟩
abbrev cX11_isSheet : ByteArray := prog_13_method_95_code
def yX11_isSheet : MethodName := ⟨RX11, "isSheet", "(II)Z"⟩
abbrev cX11_sheet : ByteArray := prog_13_method_96_code
def yX11_sheet : MethodName := ⟨RX11, "sheet", "(III)I"⟩
abbrev cX11_lay : ByteArray := prog_13_method_97_code
def yX11_lay : MethodName := ⟨RX11, "lay", "(III)I"⟩
abbrev cX11_read : ByteArray := prog_13_method_98_code
def yX11_read : MethodName := ⟨RX11, "read", "(IIII)I"⟩
abbrev cX11_torn : ByteArray := prog_13_method_99_code
def yX11_torn : MethodName := ⟨RX11, "torn", "()I"⟩
abbrev cX11_count : ByteArray := prog_13_method_100_code
def yX11_count : MethodName := ⟨RX11, "count", "(I)I"⟩
def RJ6 : String := "java/lang/Integer"
def TJ6 : u_T := fun k => match k with
  | _ => ("", "", "", false)
def tyJ6 : Nat → FieldType := fun k => match k with
  | _ => .int
abbrev wsJ60 : List Cond := u_ws RJ6 TJ6 0
theorem nmJ6 : ∀ a, a < 0 → ∀ b, b < 0 → a ≠ b → (TJ6 a).2.1 ≠ (TJ6 b).2.1 := by decide +kernel
theorem tyJ6_ok : ∀ k, k < 0 → parseFieldDescriptor (TJ6 k).2.2.1 = some (tyJ6 k) := by decide +kernel
abbrev cJ6_bitCount_0f7a4 : ByteArray := prog_14_method_49_code
def yJ6_bitCount_0f7a4 : MethodName := ⟨RJ6, "bitCount", "(I)I"⟩
def RJ9 : String := "java/lang/Math"
def TJ9 : u_T := fun k => match k with
  | _ => ("", "", "", false)
def tyJ9 : Nat → FieldType := fun k => match k with
  | _ => .int
abbrev wsJ90 : List Cond := u_ws RJ9 TJ9 0
theorem nmJ9 : ∀ a, a < 0 → ∀ b, b < 0 → a ≠ b → (TJ9 a).2.1 ≠ (TJ9 b).2.1 := by decide +kernel
theorem tyJ9_ok : ∀ k, k < 0 → parseFieldDescriptor (TJ9 k).2.2.1 = some (tyJ9 k) := by decide +kernel
abbrev cJ9_max_7cf53 : ByteArray := prog_15_method_65_code
def yJ9_max_7cf53 : MethodName := ⟨RJ9, "max", "(II)I"⟩
abbrev cJ9_min_7cf53 : ByteArray := prog_15_method_69_code
def yJ9_min_7cf53 : MethodName := ⟨RJ9, "min", "(II)I"⟩
def RJ0 : String := "java/lang/String"
def TJ0 : u_T := fun k => match k with
  | _ => ("", "", "", false)
def tyJ0 : Nat → FieldType := fun k => match k with
  | _ => .int
abbrev wsJ00 : List Cond := u_ws RJ0 TJ0 0
theorem nmJ0 : ∀ a, a < 0 → ∀ b, b < 0 → a ≠ b → (TJ0 a).2.1 ≠ (TJ0 b).2.1 := by decide +kernel
theorem tyJ0_ok : ∀ k, k < 0 → parseFieldDescriptor (TJ0 k).2.2.1 = some (tyJ0 k) := by decide +kernel
abbrev cJ0_length_8abf5 : ByteArray := prog_16_method_54_code
def yJ0_length_8abf5 : MethodName := ⟨RJ0, "length", "()I"⟩
abbrev cJ0_charAt_5068e : ByteArray := prog_16_method_56_code
def yJ0_charAt_5068e : MethodName := ⟨RJ0, "charAt", "(I)C"⟩
abbrev cJ0_coder_7d493 : ByteArray := prog_16_method_152_code
def yJ0_coder_7d493 : MethodName := ⟨RJ0, "coder", "()B"⟩
abbrev cJ0_isLatin1_aae02 : ByteArray := prog_16_method_154_code
def yJ0_isLatin1_aae02 : MethodName := ⟨RJ0, "isLatin1", "()Z"⟩
abbrev cJ0_checkIndex_df160 : ByteArray := prog_16_method_155_code
def yJ0_checkIndex_df160 : MethodName := ⟨RJ0, "checkIndex", "(II)V"⟩
def RJ1 : String := "java/lang/StringLatin1"
def TJ1 : u_T := fun k => match k with
  | _ => ("", "", "", false)
def tyJ1 : Nat → FieldType := fun k => match k with
  | _ => .int
abbrev wsJ10 : List Cond := u_ws RJ1 TJ1 0
theorem nmJ1 : ∀ a, a < 0 → ∀ b, b < 0 → a ≠ b → (TJ1 a).2.1 ≠ (TJ1 b).2.1 := by decide +kernel
theorem tyJ1_ok : ∀ k, k < 0 → parseFieldDescriptor (TJ1 k).2.2.1 = some (tyJ1 k) := by decide +kernel
abbrev cJ1_charAt_3b067 : ByteArray := prog_17_method_2_code
def yJ1_charAt_3b067 : MethodName := ⟨RJ1, "charAt", "([BI)C"⟩
def RJ2 : String := "java/lang/StringUTF16"
def TJ2 : u_T := fun k => match k with
  | _ => ("", "", "", false)
def tyJ2 : Nat → FieldType := fun k => match k with
  | _ => .int
abbrev wsJ20 : List Cond := u_ws RJ2 TJ2 0
theorem nmJ2 : ∀ a, a < 0 → ∀ b, b < 0 → a ≠ b → (TJ2 a).2.1 ≠ (TJ2 b).2.1 := by decide +kernel
theorem tyJ2_ok : ∀ k, k < 0 → parseFieldDescriptor (TJ2 k).2.2.1 = some (tyJ2 k) := by decide +kernel
abbrev cJ2_getChar_3b067 : ByteArray := prog_18_method_5_code
def yJ2_getChar_3b067 : MethodName := ⟨RJ2, "getChar", "([BI)C"⟩
abbrev cJ2_length_9d52b : ByteArray := prog_18_method_6_code
def yJ2_length_9d52b : MethodName := ⟨RJ2, "length", "([B)I"⟩
abbrev cJ2_charAt_3b067 : ByteArray := prog_18_method_83_code
def yJ2_charAt_3b067 : MethodName := ⟨RJ2, "charAt", "([BI)C"⟩
abbrev cJ2_checkIndex_2214a : ByteArray := prog_18_method_91_code
def yJ2_checkIndex_2214a : MethodName := ⟨RJ2, "checkIndex", "(I[B)V"⟩
def RJ10 : String := "java/lang/System"
def TJ10 : u_T := fun k => match k with
  | _ => ("", "", "", false)
def tyJ10 : Nat → FieldType := fun k => match k with
  | _ => .int
abbrev wsJ100 : List Cond := u_ws RJ10 TJ10 0
theorem nmJ10 : ∀ a, a < 0 → ∀ b, b < 0 → a ≠ b → (TJ10 a).2.1 ≠ (TJ10 b).2.1 := by decide +kernel
theorem tyJ10_ok : ∀ k, k < 0 → parseFieldDescriptor (TJ10 k).2.2.1 = some (tyJ10 k) := by decide +kernel
def RJ3 : String := "jdk/internal/util/Preconditions"
def TJ3 : u_T := fun k => match k with
  | _ => ("", "", "", false)
def tyJ3 : Nat → FieldType := fun k => match k with
  | _ => .int
abbrev wsJ30 : List Cond := u_ws RJ3 TJ3 0
theorem nmJ3 : ∀ a, a < 0 → ∀ b, b < 0 → a ≠ b → (TJ3 a).2.1 ≠ (TJ3 b).2.1 := by decide +kernel
theorem tyJ3_ok : ∀ k, k < 0 → parseFieldDescriptor (TJ3 k).2.2.1 = some (tyJ3 k) := by decide +kernel
abbrev cJ3_checkIndex_8e157 : ByteArray := prog_20_method_11_code
def yJ3_checkIndex_8e157 : MethodName := ⟨RJ3, "checkIndex", "(IILjava/util/function/BiFunction;)I"⟩
def RL : String := "SpoonHatesLaw"
abbrev cL_law : ByteArray := code
def yL_law : MethodName := ⟨RL, "law", "([I)Z"⟩
abbrev vwCl : List vw_C := [(RX0, TX0, 4), (RX1, TX1, 4), (RX2, TX2, 2), (RX3, TX3, 8), (RX4, TX4, 9), (RX5, TX5, 3), (RX6, TX6, 3), (RX7, TX7, 5), (RX8, TX8, 8), (RX9, TX9, 4), (RX10, TX10, 11), (RX11, TX11, 36)]
end
section
abbrev zE : Type := Nat × Instr × Nat × List Nat
/-- a method: its name, bytes, locals, answer, frames and words below it, its instructions: place, instruction, length, what they resolve to -/
abbrev zM : Type := MethodName × ByteArray × Nat × Option FieldType × Nat × Nat × List zE
def zm_0 : zM := (yX0_init, cX0_init, 1, none, 2, 40, [(0, .aload_n 0, 1, []), (1, .invokespecial 3, 3, [1003, 1033, 1026, 1027]), (4, .aload_n 0, 1, []), (5, .new 9, 3, [8, 1034, 1035, 1003]), (8, .dup, 1, []), (9, .invokespecial 11, 3, [54, 1036, 1038, 1003, 0, 1037, 1]), (12, .putfield 12, 3, [0, 0, 1151]), (15, .aload_n 0, 1, []), (16, .new 18, 3, [7, 1088, 1089, 1004]), (19, .dup, 1, []), (20, .invokespecial 20, 3, [47, 1090, 1092, 1004, 0, 1091, 1]), (23, .putfield 21, 3, [0, 1, 1154]), (26, .aload_n 0, 1, []), (27, .new 25, 3, [2, 1117, 1118, 1005]), (30, .dup, 1, []), (31, .invokespecial 27, 3, [8, 1119, 1121, 1005, 0, 1120, 1]), (34, .putfield 28, 3, [0, 2, 1157]), (37, .aload_n 0, 1, []), (38, .new 32, 3, [5, 1133, 1134, 1006]), (41, .dup, 1, []), (42, .invokespecial 34, 3, [36, 1135, 1137, 1006, 0, 1136, 1]), (45, .putfield 35, 3, [0, 3, 1160]), (48, .return_, 1, [])])
def zm_1 : zM := (yX0_copyFrom, cX0_copyFrom, 2, none, 2, 47, [(0, .aload_n 0, 1, []), (1, .getfield 12, 3, [0, 0, 1151]), (4, .aload_n 1, 1, []), (5, .getfield 12, 3, [0, 0, 1151]), (8, .invokevirtual 39, 3, [55, 3040, 3043, 1003, 1, 3041, 3042]), (11, .aload_n 0, 1, []), (12, .getfield 21, 3, [0, 1, 1154]), (15, .aload_n 1, 1, []), (16, .getfield 21, 3, [0, 1, 1154]), (19, .invokevirtual 43, 3, [48, 3047, 3050, 1004, 1, 3048, 3049]), (22, .aload_n 0, 1, []), (23, .getfield 28, 3, [0, 2, 1157]), (26, .aload_n 1, 1, []), (27, .getfield 28, 3, [0, 2, 1157]), (30, .invokevirtual 46, 3, [9, 3052, 3055, 1005, 1, 3053, 3054]), (33, .aload_n 0, 1, []), (34, .getfield 35, 3, [0, 3, 1160]), (37, .aload_n 1, 1, []), (38, .getfield 35, 3, [0, 3, 1160]), (41, .invokevirtual 49, 3, [37, 3057, 3060, 1006, 1, 3058, 3059]), (44, .return_, 1, [])])
def ze_2_0 : List zE := [(0, .aload_n 0, 1, []), (1, .getfield 12, 3, [0, 0, 1151]), (4, .iconst 0, 1, []), (5, .putfield 52, 3, [8, 0, 1043]), (8, .aload_n 0, 1, []), (9, .getfield 12, 3, [0, 0, 1151]), (12, .bipush 20, 2, []), (14, .putfield 56, 3, [8, 1, 1047]), (17, .aload_n 0, 1, []), (18, .getfield 12, 3, [0, 0, 1151]), (21, .bipush 8, 2, []), (23, .putfield 59, 3, [8, 2, 1052]), (26, .aload_n 0, 1, []), (27, .getfield 12, 3, [0, 0, 1151]), (30, .iconst 0, 1, []), (31, .putfield 62, 3, [8, 3, 1056]), (34, .aload_n 0, 1, []), (35, .getfield 12, 3, [0, 0, 1151]), (38, .iconst 0, 1, []), (39, .putfield 65, 3, [8, 4, 1060]), (42, .aload_n 0, 1, []), (43, .getfield 12, 3, [0, 0, 1151]), (46, .iconst 0, 1, []), (47, .putfield 68, 3, [8, 5, 1063]), (50, .iconst 0, 1, []), (51, .istore_n 1, 1, []), (52, .iload_n 1, 1, []), (53, .aload_n 0, 1, []), (54, .getfield 12, 3, [0, 0, 1151]), (57, .getfield 72, 3, [8, 7, 1069]), (60, .arraylength, 1, []), (61, .if_icmp .ge 19, 3, [80]), (64, .aload_n 0, 1, []), (65, .getfield 12, 3, [0, 0, 1151]), (68, .getfield 72, 3, [8, 7, 1069]), (71, .iload_n 1, 1, []), (72, .iconst 0, 1, []), (73, .iastore, 1, []), (74, .iinc 1 1, 3, []), (77, .goto (-25), 3, [52])]
def ze_2_1 : List zE := [(80, .aload_n 0, 1, []), (81, .getfield 21, 3, [0, 1, 1154]), (84, .iconst 0, 1, []), (85, .putfield 76, 3, [7, 0, 1095]), (88, .aload_n 0, 1, []), (89, .getfield 21, 3, [0, 1, 1154]), (92, .iconst 0, 1, []), (93, .putfield 79, 3, [7, 1, 1098]), (96, .aload_n 0, 1, []), (97, .getfield 28, 3, [0, 2, 1157]), (100, .iconst 0, 1, []), (101, .putfield 82, 3, [2, 0, 1124]), (104, .aload_n 0, 1, []), (105, .getfield 35, 3, [0, 3, 1160]), (108, .iconst 0, 1, []), (109, .putfield 83, 3, [5, 0, 1140]), (112, .return_, 1, [])]
def zm_2 : zM := (yX0_clear, cX0_clear, 2, none, 0, 0, (ze_2_0 ++ (ze_2_1)))
def zm_3 : zM := (yX1_init, cX1_init, 1, none, 1, 20, [(0, .aload_n 0, 1, []), (1, .invokespecial 3, 3, [1003, 2040, 1026, 1027]), (4, .aload_n 0, 1, []), (5, .iconst 0, 1, []), (6, .putfield 9, 3, [1, 0, 2041]), (9, .aload_n 0, 1, []), (10, .iconst 5, 1, []), (11, .newarray .int, 2, [1087]), (13, .putfield 15, 3, [1, 1, 2043]), (16, .aload_n 0, 1, []), (17, .iconst 5, 1, []), (18, .newarray .int, 2, [1087]), (20, .putfield 19, 3, [1, 2, 2045]), (23, .aload_n 0, 1, []), (24, .iconst 5, 1, []), (25, .newarray .int, 2, [1087]), (27, .putfield 22, 3, [1, 3, 2046]), (30, .return_, 1, [])])
def zm_4 : zM := (yX1_seek, cX1_seek, 4, none, 3, 68, [(0, .iconst 1, 1, []), (1, .istore_n 2, 1, []), (2, .iconst 0, 1, []), (3, .istore_n 3, 1, []), (4, .iload_n 3, 1, []), (5, .aload_n 1, 1, []), (6, .getfield 25, 3, [8, 0, 1041]), (9, .if_icmp .ge 15, 3, [24]), (12, .iload_n 2, 1, []), (13, .iload_n 3, 1, []), (14, .iconst 1, 1, []), (15, .iadd, 1, []), (16, .imul, 1, []), (17, .istore_n 2, 1, []), (18, .iinc 3 1, 3, []), (21, .goto (-17), 3, [4]), (24, .aload_n 0, 1, []), (25, .iconst (-1), 1, []), (26, .putfield 9, 3, [1, 0, 2041]), (29, .iconst 0, 1, []), (30, .istore_n 3, 1, []), (31, .iload_n 3, 1, []), (32, .iload_n 2, 1, []), (33, .if_icmp .ge 34, 3, [67]), (36, .aload_n 0, 1, []), (37, .iload_n 3, 1, []), (38, .aload_n 1, 1, []), (39, .getfield 25, 3, [8, 0, 1041]), (42, .invokevirtual 30, 3, [5, 4069, 4072, 1010, 2, 4071, 23]), (45, .aload_n 0, 1, []), (46, .aload_n 1, 1, []), (47, .getfield 25, 3, [8, 0, 1041]), (50, .invokevirtual 34, 3, [6, 4073, 4076, 1010, 1, 4075, 24]), (53, .ifCond .eq 8, 3, [61]), (56, .aload_n 0, 1, []), (57, .aload_n 1, 1, []), (58, .invokevirtual 38, 3, [7, 4077, 4080, 1010, 1, 4079, 25]), (61, .iinc 3 1, 3, []), (64, .goto (-33), 3, [31]), (67, .return_, 1, [])])
def zm_5 : zM := (yX1_tellReaches, cX1_tellReaches, 6, none, 0, 0, [(0, .iload_n 1, 1, []), (1, .istore_n 3, 1, []), (2, .iload_n 2, 1, []), (3, .iconst 1, 1, []), (4, .isub, 1, []), (5, .istore 4, 2, []), (7, .iload 4, 2, []), (9, .ifCond .lt 31, 3, [40]), (12, .iload_n 2, 1, []), (13, .iload 4, 2, []), (15, .isub, 1, []), (16, .istore 5, 2, []), (18, .aload_n 0, 1, []), (19, .getfield 22, 3, [1, 3, 2046]), (22, .iload 4, 2, []), (24, .iload_n 3, 1, []), (25, .iload 5, 2, []), (27, .irem, 1, []), (28, .iastore, 1, []), (29, .iload_n 3, 1, []), (30, .iload 5, 2, []), (32, .idiv, 1, []), (33, .istore_n 3, 1, []), (34, .iinc 4 (-1), 3, []), (37, .goto (-30), 3, [7]), (40, .return_, 1, [])])
def ze_6_0 : List zE := [(0, .iconst 0, 1, []), (1, .istore_n 2, 1, []), (2, .iload_n 2, 1, []), (3, .iload_n 1, 1, []), (4, .if_icmp .ge 17, 3, [21]), (7, .aload_n 0, 1, []), (8, .getfield 19, 3, [1, 2, 2045]), (11, .iload_n 2, 1, []), (12, .bipush (-4), 2, []), (14, .iastore, 1, []), (15, .iinc 2 1, 3, []), (18, .goto (-16), 3, [2]), (21, .iconst 0, 1, []), (22, .istore_n 2, 1, []), (23, .iload_n 2, 1, []), (24, .iload_n 1, 1, []), (25, .if_icmp .ge 61, 3, [86]), (28, .iload_n 2, 1, []), (29, .aload_n 0, 1, []), (30, .getfield 22, 3, [1, 3, 2046]), (33, .iload_n 2, 1, []), (34, .iaload, 1, []), (35, .iadd, 1, []), (36, .istore_n 3, 1, []), (37, .iload_n 3, 1, []), (38, .iload_n 2, 1, []), (39, .if_icmp .eq 41, 3, [80]), (42, .aload_n 0, 1, []), (43, .getfield 19, 3, [1, 2, 2045]), (46, .iload_n 2, 1, []), (47, .iaload, 1, []), (48, .bipush (-4), 2, []), (50, .if_icmp .ne 14, 3, [64]), (53, .aload_n 0, 1, []), (54, .getfield 19, 3, [1, 2, 2045]), (57, .iload_n 3, 1, []), (58, .iaload, 1, []), (59, .bipush (-4), 2, []), (61, .if_icmp .eq 5, 3, [66]), (64, .iconst 0, 1, [])]
def ze_6_1 : List zE := [(65, .ireturn, 1, []), (66, .aload_n 0, 1, []), (67, .getfield 19, 3, [1, 2, 2045]), (70, .iload_n 2, 1, []), (71, .iload_n 3, 1, []), (72, .iastore, 1, []), (73, .aload_n 0, 1, []), (74, .getfield 19, 3, [1, 2, 2045]), (77, .iload_n 3, 1, []), (78, .iload_n 2, 1, []), (79, .iastore, 1, []), (80, .iinc 2 1, 3, []), (83, .goto (-60), 3, [23]), (86, .iconst 1, 1, []), (87, .ireturn, 1, [])]
def zm_6 : zM := (yX1_pairsUp, cX1_pairsUp, 4, (some .boolean), 0, 0, (ze_6_0 ++ (ze_6_1)))
def zm_7 : zM := (yX1_takeIfMore, cX1_takeIfMore, 4, none, 2, 45, [(0, .iconst 0, 1, []), (1, .istore_n 2, 1, []), (2, .iconst 0, 1, []), (3, .istore_n 3, 1, []), (4, .iload_n 3, 1, []), (5, .aload_n 1, 1, []), (6, .getfield 25, 3, [8, 0, 1041]), (9, .if_icmp .ge 33, 3, [42]), (12, .aload_n 0, 1, []), (13, .getfield 19, 3, [1, 2, 2045]), (16, .iload_n 3, 1, []), (17, .iaload, 1, []), (18, .iload_n 3, 1, []), (19, .if_icmp .le 17, 3, [36]), (22, .iload_n 2, 1, []), (23, .aload_n 1, 1, []), (24, .iload_n 3, 1, []), (25, .aload_n 0, 1, []), (26, .getfield 19, 3, [1, 2, 2045]), (29, .iload_n 3, 1, []), (30, .iaload, 1, []), (31, .invokevirtual 42, 3, [61, 4081, 3175, 1003, 2, 3173, 3174]), (34, .iadd, 1, []), (35, .istore_n 2, 1, []), (36, .iinc 3 1, 3, []), (39, .goto (-35), 3, [4]), (42, .iload_n 2, 1, []), (43, .aload_n 0, 1, []), (44, .getfield 9, 3, [1, 0, 2041]), (47, .if_icmp .le 22, 3, [69]), (50, .aload_n 0, 1, []), (51, .iload_n 2, 1, []), (52, .putfield 9, 3, [1, 0, 2041]), (55, .aload_n 0, 1, []), (56, .getfield 19, 3, [1, 2, 2045]), (59, .iconst 0, 1, []), (60, .aload_n 0, 1, []), (61, .getfield 15, 3, [1, 1, 2043]), (64, .iconst 0, 1, []), (65, .iconst 5, 1, []), (66, .invokestatic 46, 3, [1002, 4082, 3046, 3045, 1018]), (69, .return_, 1, [])])
def zm_8 : zM := (yX2_init, cX2_init, 1, none, 1, 20, [(0, .aload_n 0, 1, []), (1, .invokespecial 3, 3, [1003, 1122, 1026, 1027]), (4, .aload_n 0, 1, []), (5, .iconst 0, 1, []), (6, .putfield 9, 3, [2, 0, 1123]), (9, .aload_n 0, 1, []), (10, .bipush 8, 2, []), (12, .newarray .int, 2, [1087]), (14, .putfield 15, 3, [2, 1, 1126]), (17, .return_, 1, [])])
def zm_9 : zM := (yX2_copyFrom, cX2_copyFrom, 2, none, 1, 26, [(0, .aload_n 0, 1, []), (1, .aload_n 1, 1, []), (2, .getfield 9, 3, [2, 0, 1123]), (5, .putfield 9, 3, [2, 0, 1123]), (8, .aload_n 1, 1, []), (9, .getfield 15, 3, [2, 1, 1126]), (12, .iconst 0, 1, []), (13, .aload_n 0, 1, []), (14, .getfield 15, 3, [2, 1, 1126]), (17, .iconst 0, 1, []), (18, .bipush 8, 2, []), (20, .invokestatic 19, 3, [1002, 3056, 3046, 3045, 1018]), (23, .return_, 1, [])])
def zm_10 : zM := (yX2_isFull, cX2_isFull, 1, (some .boolean), 0, 0, [(0, .aload_n 0, 1, []), (1, .getfield 9, 3, [2, 0, 1123]), (4, .bipush 8, 2, []), (6, .if_icmp .lt 7, 3, [13]), (9, .iconst 1, 1, []), (10, .goto 4, 3, [14]), (13, .iconst 0, 1, []), (14, .ireturn, 1, [])])
def zm_11 : zM := (yX2_add, cX2_add, 3, none, 1, 21, [(0, .aload_n 0, 1, []), (1, .getfield 15, 3, [2, 1, 1126]), (4, .aload_n 0, 1, []), (5, .getfield 9, 3, [2, 0, 1123]), (8, .bipush 10, 2, []), (10, .iload_n 1, 1, []), (11, .iload_n 2, 1, []), (12, .invokestatic 25, 3, [1001, 3028, 3029, 1017, 3030]), (15, .imul, 1, []), (16, .iload_n 1, 1, []), (17, .iload_n 2, 1, []), (18, .invokestatic 31, 3, [1000, 3031, 2230, 1017, 2231]), (21, .iadd, 1, []), (22, .iastore, 1, []), (23, .aload_n 0, 1, []), (24, .dup, 1, []), (25, .getfield 9, 3, [2, 0, 1123]), (28, .iconst 1, 1, []), (29, .iadd, 1, []), (30, .putfield 9, 3, [2, 0, 1123]), (33, .return_, 1, [])])
def zm_12 : zM := (yX2_stirAll, cX2_stirAll, 3, (some .int), 3, 68, [(0, .iconst 0, 1, []), (1, .istore_n 2, 1, []), (2, .iload_n 2, 1, []), (3, .aload_n 0, 1, []), (4, .getfield 9, 3, [2, 0, 1123]), (7, .if_icmp .ge 40, 3, [47]), (10, .aload_n 1, 1, []), (11, .invokevirtual 34, 3, [62, 3205, 3185, 1003, 0, 3183, 3184]), (14, .ifCond .ne 5, 3, [19]), (17, .iload_n 2, 1, []), (18, .ireturn, 1, []), (19, .aload_n 1, 1, []), (20, .aload_n 0, 1, []), (21, .getfield 15, 3, [2, 1, 1126]), (24, .iload_n 2, 1, []), (25, .iaload, 1, []), (26, .bipush 10, 2, []), (28, .idiv, 1, []), (29, .aload_n 0, 1, []), (30, .getfield 15, 3, [2, 1, 1126]), (33, .iload_n 2, 1, []), (34, .iaload, 1, []), (35, .bipush 10, 2, []), (37, .irem, 1, []), (38, .invokevirtual 40, 3, [63, 3206, 3189, 1003, 2, 3187, 3188]), (41, .iinc 2 1, 3, []), (44, .goto (-42), 3, [2]), (47, .bipush (-4), 2, []), (49, .ireturn, 1, [])])
def zm_13 : zM := (yX3_init, cX3_init, 1, none, 3, 60, [(0, .aload_n 0, 1, []), (1, .invokespecial 3, 3, [1003, 1177, 1026, 1027]), (4, .aload_n 0, 1, []), (5, .new 9, 3, [0, 1178, 1029, 1002]), (8, .dup, 1, []), (9, .invokespecial 11, 3, [0, 1179, 1032, 1002, 0, 1031, 1]), (12, .putfield 12, 3, [3, 0, 1203]), (15, .aload_n 0, 1, []), (16, .iconst 0, 1, []), (17, .putfield 18, 3, [3, 1, 1205]), (20, .aload_n 0, 1, []), (21, .iconst 0, 1, []), (22, .putfield 22, 3, [3, 2, 1207]), (25, .aload_n 0, 1, []), (26, .iconst 0, 1, []), (27, .putfield 25, 3, [3, 3, 1209]), (30, .aload_n 0, 1, []), (31, .new 28, 3, [9, 1180, 1181, 1008]), (34, .dup, 1, []), (35, .invokespecial 30, 3, [68, 1182, 1184, 1008, 0, 1183, 1]), (38, .putfield 31, 3, [3, 4, 1211]), (41, .aload_n 0, 1, []), (42, .iconst 0, 1, []), (43, .putfield 35, 3, [3, 5, 1213]), (46, .aload_n 0, 1, []), (47, .iconst 0, 1, []), (48, .putfield 38, 3, [3, 6, 1214]), (51, .aload_n 0, 1, []), (52, .iconst (-1), 1, []), (53, .putfield 42, 3, [3, 7, 1215]), (56, .return_, 1, [])])
def ze_14_0 : List zE := [(0, .aload_n 0, 1, []), (1, .getfield 12, 3, [3, 0, 1203]), (4, .invokevirtual 45, 3, [2, 2128, 2131, 1002, 0, 2129, 2130]), (7, .aload_n 0, 1, []), (8, .getfield 31, 3, [3, 4, 1211]), (11, .invokevirtual 48, 3, [69, 2132, 2135, 1008, 0, 2133, 2134]), (14, .aload_n 0, 1, []), (15, .iconst 0, 1, []), (16, .putfield 18, 3, [3, 1, 1205]), (19, .aload_n 0, 1, []), (20, .iconst 0, 1, []), (21, .putfield 22, 3, [3, 2, 1207]), (24, .aload_n 0, 1, []), (25, .iconst 0, 1, []), (26, .putfield 35, 3, [3, 5, 1213]), (29, .aload_n 0, 1, []), (30, .iconst 0, 1, []), (31, .putfield 38, 3, [3, 6, 1214]), (34, .aload_n 0, 1, []), (35, .iconst (-1), 1, []), (36, .putfield 42, 3, [3, 7, 1215]), (39, .aload_n 0, 1, []), (40, .getfield 31, 3, [3, 4, 1211]), (43, .invokevirtual 51, 3, [70, 2136, 2139, 1008, 0, 2137, 2138]), (46, .istore_n 1, 1, []), (47, .iload_n 1, 1, []), (48, .iconst 3, 1, []), (49, .if_icmp .eq 44, 3, [93]), (52, .aload_n 0, 1, []), (53, .getfield 18, 3, [3, 1, 1205]), (56, .sipush 160, 3, []), (59, .if_icmp .ge 34, 3, [93]), (62, .aload_n 0, 1, []), (63, .iload_n 1, 1, []), (64, .invokevirtual 55, 3, [15, 2140, 2143, 1007, 1, 2142, 0]), (67, .ifCond .ne 5, 3, [72]), (70, .iconst 0, 1, []), (71, .ireturn, 1, []), (72, .aload_n 0, 1, []), (73, .dup, 1, [])]
def ze_14_1 : List zE := [(74, .getfield 18, 3, [3, 1, 1205]), (77, .iconst 1, 1, []), (78, .iadd, 1, []), (79, .putfield 18, 3, [3, 1, 1205]), (82, .aload_n 0, 1, []), (83, .getfield 31, 3, [3, 4, 1211]), (86, .invokevirtual 51, 3, [70, 2136, 2139, 1008, 0, 2137, 2138]), (89, .istore_n 1, 1, []), (90, .goto (-43), 3, [47]), (93, .aload_n 0, 1, []), (94, .getfield 42, 3, [3, 7, 1215]), (97, .aload_n 0, 1, []), (98, .getfield 12, 3, [3, 0, 1203]), (101, .getfield 59, 3, [0, 0, 1152]), (104, .getfield 63, 3, [8, 0, 1042]), (107, .if_icmp .lt 12, 3, [119]), (110, .aload_n 0, 1, []), (111, .bipush 6, 2, []), (113, .invokevirtual 68, 3, [25, 2144, 2147, 1007, 1, 2146, 1]), (116, .ifCond .eq 7, 3, [123]), (119, .iconst 1, 1, []), (120, .goto 4, 3, [124]), (123, .iconst 0, 1, []), (124, .ireturn, 1, [])]
def zm_14 : zM := (yX3_readAll, cX3_readAll, 2, (some .boolean), 7, 149, (ze_14_0 ++ (ze_14_1)))
def ze_15_0 : List zE := [(0, .iload_n 1, 1, []), (1, .iconst 4, 1, []), (2, .if_icmp .ne 9, 3, [11]), (5, .aload_n 0, 1, []), (6, .iconst 1, 1, []), (7, .invokevirtual 68, 3, [25, 2144, 2147, 1007, 1, 2146, 1]), (10, .ireturn, 1, []), (11, .iload_n 1, 1, []), (12, .ifCond .ne 10, 3, [22]), (15, .aload_n 0, 1, []), (16, .invokevirtual 71, 3, [16, 2148, 2151, 1007, 0, 2150, 2]), (19, .goto 5, 3, [24]), (22, .bipush 9, 2, []), (24, .istore_n 2, 1, []), (25, .iload_n 2, 1, []), (26, .tableswitch 146 4 9 #[44, 65, 86, 106, 126, 38], 38, []), (64, .aload_n 0, 1, []), (65, .iconst 2, 1, []), (66, .invokevirtual 68, 3, [25, 2144, 2147, 1007, 1, 2146, 1]), (69, .ireturn, 1, []), (70, .aload_n 0, 1, []), (71, .iconst 0, 1, []), (72, .invokevirtual 74, 3, [18, 2213, 2216, 1007, 1, 2215, 3]), (75, .ifCond .eq 14, 3, [89]), (78, .aload_n 0, 1, []), (79, .invokevirtual 78, 3, [24, 2236, 2239, 1007, 0, 2238, 6]), (82, .ifCond .eq 7, 3, [89]), (85, .iconst 1, 1, []), (86, .goto 4, 3, [90]), (89, .iconst 0, 1, []), (90, .ireturn, 1, []), (91, .aload_n 0, 1, []), (92, .iconst 1, 1, []), (93, .invokevirtual 74, 3, [18, 2213, 2216, 1007, 1, 2215, 3]), (96, .ifCond .eq 14, 3, [110]), (99, .aload_n 0, 1, []), (100, .invokevirtual 78, 3, [24, 2236, 2239, 1007, 0, 2238, 6]), (103, .ifCond .eq 7, 3, [110]), (106, .iconst 1, 1, []), (107, .goto 4, 3, [111])]
def ze_15_1 : List zE := [(110, .iconst 0, 1, []), (111, .ireturn, 1, []), (112, .aload_n 0, 1, []), (113, .invokevirtual 82, 3, [19, 3000, 3003, 1007, 0, 3002, 7]), (116, .ifCond .eq 14, 3, [130]), (119, .aload_n 0, 1, []), (120, .invokevirtual 78, 3, [24, 2236, 2239, 1007, 0, 2238, 6]), (123, .ifCond .eq 7, 3, [130]), (126, .iconst 1, 1, []), (127, .goto 4, 3, [131]), (130, .iconst 0, 1, []), (131, .ireturn, 1, []), (132, .aload_n 0, 1, []), (133, .invokevirtual 85, 3, [20, 3004, 3007, 1007, 0, 3006, 8]), (136, .ifCond .eq 14, 3, [150]), (139, .aload_n 0, 1, []), (140, .invokevirtual 78, 3, [24, 2236, 2239, 1007, 0, 2238, 6]), (143, .ifCond .eq 7, 3, [150]), (146, .iconst 1, 1, []), (147, .goto 4, 3, [151]), (150, .iconst 0, 1, []), (151, .ireturn, 1, []), (152, .aload_n 0, 1, []), (153, .invokevirtual 88, 3, [21, 3016, 3019, 1007, 0, 3018, 9]), (156, .ifCond .eq 14, 3, [170]), (159, .aload_n 0, 1, []), (160, .invokevirtual 78, 3, [24, 2236, 2239, 1007, 0, 2238, 6]), (163, .ifCond .eq 7, 3, [170]), (166, .iconst 1, 1, []), (167, .goto 4, 3, [171]), (170, .iconst 0, 1, []), (171, .ireturn, 1, []), (172, .aload_n 0, 1, []), (173, .iload_n 2, 1, []), (174, .invokevirtual 91, 3, [17, 3032, 3035, 1007, 1, 3034, 10]), (177, .ifCond .eq 14, 3, [191]), (180, .aload_n 0, 1, []), (181, .invokevirtual 78, 3, [24, 2236, 2239, 1007, 0, 2238, 6]), (184, .ifCond .eq 7, 3, [191]), (187, .iconst 1, 1, [])]
def ze_15_2 : List zE := [(188, .goto 4, 3, [192]), (191, .iconst 0, 1, []), (192, .ireturn, 1, [])]
def zm_15 : zM := (yX3_readLine, cX3_readLine, 3, (some .boolean), 6, 127, (ze_15_0 ++ (ze_15_1 ++ (ze_15_2))))
def ze_16_0 : List zE := [(0, .aload_n 0, 1, []), (1, .getfield 31, 3, [3, 4, 1211]), (4, .ldc 94, 2, [2152]), (6, .invokevirtual 96, 3, [72, 2153, 2156, 1008, 1, 2154, 2155]), (9, .ifCond .eq 5, 3, [14]), (12, .iconst 0, 1, []), (13, .ireturn, 1, []), (14, .aload_n 0, 1, []), (15, .getfield 31, 3, [3, 4, 1211]), (18, .ldc 100, 2, [2205]), (20, .invokevirtual 96, 3, [72, 2153, 2156, 1008, 1, 2154, 2155]), (23, .ifCond .eq 5, 3, [28]), (26, .iconst 1, 1, []), (27, .ireturn, 1, []), (28, .aload_n 0, 1, []), (29, .getfield 31, 3, [3, 4, 1211]), (32, .ldc 102, 2, [2206]), (34, .invokevirtual 96, 3, [72, 2153, 2156, 1008, 1, 2154, 2155]), (37, .ifCond .eq 5, 3, [42]), (40, .iconst 2, 1, []), (41, .ireturn, 1, []), (42, .aload_n 0, 1, []), (43, .getfield 31, 3, [3, 4, 1211]), (46, .ldc 104, 2, [2207]), (48, .invokevirtual 96, 3, [72, 2153, 2156, 1008, 1, 2154, 2155]), (51, .ifCond .eq 5, 3, [56]), (54, .iconst 3, 1, []), (55, .ireturn, 1, []), (56, .aload_n 0, 1, []), (57, .getfield 31, 3, [3, 4, 1211]), (60, .ldc 106, 2, [2208]), (62, .invokevirtual 96, 3, [72, 2153, 2156, 1008, 1, 2154, 2155]), (65, .ifCond .eq 5, 3, [70]), (68, .iconst 4, 1, []), (69, .ireturn, 1, []), (70, .aload_n 0, 1, []), (71, .getfield 31, 3, [3, 4, 1211]), (74, .ldc 108, 2, [2209]), (76, .invokevirtual 96, 3, [72, 2153, 2156, 1008, 1, 2154, 2155]), (79, .ifCond .eq 5, 3, [84])]
def ze_16_1 : List zE := [(82, .iconst 5, 1, []), (83, .ireturn, 1, []), (84, .aload_n 0, 1, []), (85, .getfield 31, 3, [3, 4, 1211]), (88, .ldc 110, 2, [2210]), (90, .invokevirtual 96, 3, [72, 2153, 2156, 1008, 1, 2154, 2155]), (93, .ifCond .eq 6, 3, [99]), (96, .bipush 6, 2, []), (98, .ireturn, 1, []), (99, .aload_n 0, 1, []), (100, .getfield 31, 3, [3, 4, 1211]), (103, .ldc 112, 2, [2211]), (105, .invokevirtual 96, 3, [72, 2153, 2156, 1008, 1, 2154, 2155]), (108, .ifCond .eq 6, 3, [114]), (111, .bipush 7, 2, []), (113, .ireturn, 1, []), (114, .aload_n 0, 1, []), (115, .getfield 31, 3, [3, 4, 1211]), (118, .ldc 114, 2, [2212]), (120, .invokevirtual 96, 3, [72, 2153, 2156, 1008, 1, 2154, 2155]), (123, .ifCond .eq 8, 3, [131]), (126, .bipush 8, 2, []), (128, .goto 5, 3, [133]), (131, .bipush 9, 2, []), (133, .ireturn, 1, [])]
def zm_16 : zM := (yX3_lineOfName, cX3_lineOfName, 1, (some .int), 5, 107, (ze_16_0 ++ (ze_16_1)))
def zm_17 : zM := (yX3_addHelper, cX3_addHelper, 2, (some .boolean), 1, 21, [(0, .aload_n 0, 1, []), (1, .getfield 12, 3, [3, 0, 1203]), (4, .getfield 59, 3, [0, 0, 1152]), (7, .getfield 63, 3, [8, 0, 1042]), (10, .iconst 5, 1, []), (11, .if_icmp .lt 9, 3, [20]), (14, .aload_n 0, 1, []), (15, .iconst 5, 1, []), (16, .invokevirtual 68, 3, [25, 2144, 2147, 1007, 1, 2146, 1]), (19, .ireturn, 1, []), (20, .aload_n 0, 1, []), (21, .getfield 12, 3, [3, 0, 1203]), (24, .getfield 59, 3, [0, 0, 1152]), (27, .getfield 116, 3, [8, 6, 1066]), (30, .aload_n 0, 1, []), (31, .getfield 12, 3, [3, 0, 1203]), (34, .getfield 59, 3, [0, 0, 1152]), (37, .getfield 63, 3, [8, 0, 1042]), (40, .iload_n 1, 1, []), (41, .iastore, 1, []), (42, .aload_n 0, 1, []), (43, .getfield 12, 3, [3, 0, 1203]), (46, .getfield 59, 3, [0, 0, 1152]), (49, .dup, 1, []), (50, .getfield 63, 3, [8, 0, 1042]), (53, .iconst 1, 1, []), (54, .iadd, 1, []), (55, .putfield 63, 3, [8, 0, 1042]), (58, .iconst 1, 1, []), (59, .ireturn, 1, [])])
def ze_18_0 : List zE := [(0, .aload_n 0, 1, []), (1, .iconst (-1), 1, []), (2, .invokevirtual 120, 3, [22, 2217, 2220, 1007, 1, 2219, 4]), (5, .istore_n 2, 1, []), (6, .iload_n 2, 1, []), (7, .ifCond .ge 7, 3, [14]), (10, .iconst (-1), 1, []), (11, .goto 8, 3, [19]), (14, .aload_n 0, 1, []), (15, .iload_n 2, 1, []), (16, .invokevirtual 120, 3, [22, 2217, 2220, 1007, 1, 2219, 4]), (19, .istore_n 3, 1, []), (20, .iload_n 3, 1, []), (21, .ifCond .ge 5, 3, [26]), (24, .iconst 0, 1, []), (25, .ireturn, 1, []), (26, .iconst 1, 1, []), (27, .iload_n 2, 1, []), (28, .iconst 5, 1, []), (29, .imul, 1, []), (30, .iload_n 3, 1, []), (31, .iadd, 1, []), (32, .ishl, 1, []), (33, .istore 4, 2, []), (35, .iload_n 1, 1, []), (36, .ifCond .eq 13, 3, [49]), (39, .iconst 1, 1, []), (40, .iload_n 3, 1, []), (41, .iconst 5, 1, []), (42, .imul, 1, []), (43, .iload_n 2, 1, []), (44, .iadd, 1, []), (45, .ishl, 1, []), (46, .goto 4, 3, [50]), (49, .iconst 0, 1, []), (50, .istore 5, 2, []), (52, .aload_n 0, 1, []), (53, .getfield 35, 3, [3, 5, 1213]), (56, .iload 4, 2, []), (58, .iload 5, 2, [])]
def ze_18_1 : List zE := [(60, .ior, 1, []), (61, .iand, 1, []), (62, .ifCond .eq 9, 3, [71]), (65, .aload_n 0, 1, []), (66, .iconst 4, 1, []), (67, .invokevirtual 68, 3, [25, 2144, 2147, 1007, 1, 2146, 1]), (70, .ireturn, 1, []), (71, .aload_n 0, 1, []), (72, .dup, 1, []), (73, .getfield 35, 3, [3, 5, 1213]), (76, .iload 4, 2, []), (78, .iload 5, 2, []), (80, .ior, 1, []), (81, .ior, 1, []), (82, .putfield 35, 3, [3, 5, 1213]), (85, .aload_n 0, 1, []), (86, .iconst 0, 1, []), (87, .bipush 9, 2, []), (89, .invokevirtual 124, 3, [23, 2221, 2224, 1007, 2, 2223, 5]), (92, .istore 6, 2, []), (94, .iload 6, 2, []), (96, .ifCond .ge 5, 3, [101]), (99, .iconst 0, 1, []), (100, .ireturn, 1, []), (101, .aload_n 0, 1, []), (102, .getfield 12, 3, [3, 0, 1203]), (105, .getfield 59, 3, [0, 0, 1152]), (108, .iload_n 2, 1, []), (109, .iload_n 3, 1, []), (110, .iload 6, 2, []), (112, .invokevirtual 128, 3, [59, 2232, 2235, 1003, 3, 2233, 2234]), (115, .iload_n 1, 1, []), (116, .ifCond .eq 17, 3, [133]), (119, .aload_n 0, 1, []), (120, .getfield 12, 3, [3, 0, 1203]), (123, .getfield 59, 3, [0, 0, 1152]), (126, .iload_n 3, 1, []), (127, .iload_n 2, 1, []), (128, .iload 6, 2, []), (130, .invokevirtual 128, 3, [59, 2232, 2235, 1003, 3, 2233, 2234])]
def ze_18_2 : List zE := [(133, .iconst 1, 1, []), (134, .ireturn, 1, [])]
def zm_18 : zM := (yX3_readHatred, cX3_readHatred, 7, (some .boolean), 3, 70, (ze_18_0 ++ (ze_18_1 ++ (ze_18_2))))
def zm_19 : zM := (yX3_readPot, cX3_readPot, 3, (some .boolean), 2, 48, [(0, .aload_n 0, 1, []), (1, .getfield 38, 3, [3, 6, 1214]), (4, .ifCond .eq 9, 3, [13]), (7, .aload_n 0, 1, []), (8, .iconst 4, 1, []), (9, .invokevirtual 68, 3, [25, 2144, 2147, 1007, 1, 2146, 1]), (12, .ireturn, 1, []), (13, .aload_n 0, 1, []), (14, .iconst 1, 1, []), (15, .putfield 38, 3, [3, 6, 1214]), (18, .aload_n 0, 1, []), (19, .iconst 1, 1, []), (20, .bipush 99, 2, []), (22, .invokevirtual 124, 3, [23, 2221, 2224, 1007, 2, 2223, 5]), (25, .istore_n 1, 1, []), (26, .iload_n 1, 1, []), (27, .ifCond .ge 7, 3, [34]), (30, .iconst (-1), 1, []), (31, .goto 10, 3, [41]), (34, .aload_n 0, 1, []), (35, .iconst 1, 1, []), (36, .bipush 12, 2, []), (38, .invokevirtual 124, 3, [23, 2221, 2224, 1007, 2, 2223, 5]), (41, .istore_n 2, 1, []), (42, .iload_n 2, 1, []), (43, .ifCond .ge 5, 3, [48]), (46, .iconst 0, 1, []), (47, .ireturn, 1, []), (48, .aload_n 0, 1, []), (49, .getfield 12, 3, [3, 0, 1203]), (52, .getfield 59, 3, [0, 0, 1152]), (55, .iload_n 1, 1, []), (56, .putfield 132, 3, [8, 1, 1050]), (59, .aload_n 0, 1, []), (60, .getfield 12, 3, [3, 0, 1203]), (63, .getfield 59, 3, [0, 0, 1152]), (66, .iload_n 2, 1, []), (67, .putfield 135, 3, [8, 2, 1054]), (70, .iconst 1, 1, []), (71, .ireturn, 1, [])])
def zm_20 : zM := (yX3_readSlip, cX3_readSlip, 4, (some .boolean), 3, 70, [(0, .aload_n 0, 1, []), (1, .getfield 12, 3, [3, 0, 1203]), (4, .getfield 138, 3, [0, 1, 1156]), (7, .invokevirtual 142, 3, [51, 3008, 3011, 1004, 0, 3009, 3010]), (10, .ifCond .eq 9, 3, [19]), (13, .aload_n 0, 1, []), (14, .iconst 5, 1, []), (15, .invokevirtual 68, 3, [25, 2144, 2147, 1007, 1, 2146, 1]), (18, .ireturn, 1, []), (19, .aload_n 0, 1, []), (20, .iconst (-1), 1, []), (21, .invokevirtual 120, 3, [22, 2217, 2220, 1007, 1, 2219, 4]), (24, .istore_n 1, 1, []), (25, .iload_n 1, 1, []), (26, .ifCond .ge 7, 3, [33]), (29, .iconst (-1), 1, []), (30, .goto 8, 3, [38]), (33, .aload_n 0, 1, []), (34, .iload_n 1, 1, []), (35, .invokevirtual 120, 3, [22, 2217, 2220, 1007, 1, 2219, 4]), (38, .istore_n 2, 1, []), (39, .iload_n 2, 1, []), (40, .ifCond .ge 7, 3, [47]), (43, .iconst (-1), 1, []), (44, .goto 10, 3, [54]), (47, .aload_n 0, 1, []), (48, .iconst 1, 1, []), (49, .bipush 9, 2, []), (51, .invokevirtual 124, 3, [23, 2221, 2224, 1007, 2, 2223, 5]), (54, .istore_n 3, 1, []), (55, .iload_n 3, 1, []), (56, .ifCond .ge 5, 3, [61]), (59, .iconst 0, 1, []), (60, .ireturn, 1, []), (61, .aload_n 0, 1, []), (62, .getfield 12, 3, [3, 0, 1203]), (65, .getfield 138, 3, [0, 1, 1156]), (68, .iload_n 1, 1, []), (69, .iload_n 2, 1, []), (70, .iload_n 3, 1, []), (71, .invokevirtual 147, 3, [52, 3012, 3015, 1004, 3, 3013, 3014]), (74, .iconst 1, 1, []), (75, .ireturn, 1, [])])
def zm_21 : zM := (yX3_readPlan, cX3_readPlan, 3, (some .boolean), 3, 70, [(0, .aload_n 0, 1, []), (1, .getfield 12, 3, [3, 0, 1203]), (4, .getfield 150, 3, [0, 2, 1159]), (7, .invokevirtual 153, 3, [10, 3020, 3023, 1005, 0, 3021, 3022]), (10, .ifCond .eq 9, 3, [19]), (13, .aload_n 0, 1, []), (14, .iconst 5, 1, []), (15, .invokevirtual 68, 3, [25, 2144, 2147, 1007, 1, 2146, 1]), (18, .ireturn, 1, []), (19, .aload_n 0, 1, []), (20, .iconst (-1), 1, []), (21, .invokevirtual 120, 3, [22, 2217, 2220, 1007, 1, 2219, 4]), (24, .istore_n 1, 1, []), (25, .iload_n 1, 1, []), (26, .ifCond .ge 7, 3, [33]), (29, .iconst (-1), 1, []), (30, .goto 8, 3, [38]), (33, .aload_n 0, 1, []), (34, .iload_n 1, 1, []), (35, .invokevirtual 120, 3, [22, 2217, 2220, 1007, 1, 2219, 4]), (38, .istore_n 2, 1, []), (39, .iload_n 2, 1, []), (40, .ifCond .ge 5, 3, [45]), (43, .iconst 0, 1, []), (44, .ireturn, 1, []), (45, .aload_n 0, 1, []), (46, .getfield 12, 3, [3, 0, 1203]), (49, .getfield 150, 3, [0, 2, 1159]), (52, .iload_n 1, 1, []), (53, .iload_n 2, 1, []), (54, .invokevirtual 156, 3, [11, 3024, 3027, 1005, 2, 3025, 3026]), (57, .iconst 1, 1, []), (58, .ireturn, 1, [])])
def zm_22 : zM := (yX3_readHelper, cX3_readHelper, 3, (some .int), 2, 48, [(0, .aload_n 0, 1, []), (1, .iconst 0, 1, []), (2, .iconst 4, 1, []), (3, .invokevirtual 124, 3, [23, 2221, 2224, 1007, 2, 2223, 5]), (6, .istore_n 2, 1, []), (7, .iload_n 2, 1, []), (8, .ifCond .lt 16, 3, [24]), (11, .iload_n 2, 1, []), (12, .iload_n 1, 1, []), (13, .if_icmp .ne 11, 3, [24]), (16, .aload_n 0, 1, []), (17, .iconst 3, 1, []), (18, .invokevirtual 68, 3, [25, 2144, 2147, 1007, 1, 2146, 1]), (21, .pop, 1, []), (22, .iconst (-1), 1, []), (23, .ireturn, 1, []), (24, .aload_n 0, 1, []), (25, .aload_n 0, 1, []), (26, .getfield 42, 3, [3, 7, 1215]), (29, .iload_n 2, 1, []), (30, .invokestatic 159, 3, [1000, 2229, 2230, 1017, 2231]), (33, .putfield 42, 3, [3, 7, 1215]), (36, .iload_n 2, 1, []), (37, .ireturn, 1, [])])
def zm_23 : zM := (yX3_readNumber, cX3_readNumber, 5, (some .int), 1, 24, [(0, .aload_n 0, 1, []), (1, .getfield 31, 3, [3, 4, 1211]), (4, .invokevirtual 51, 3, [70, 2136, 2139, 1008, 0, 2137, 2138]), (7, .istore_n 3, 1, []), (8, .iload_n 3, 1, []), (9, .iconst 1, 1, []), (10, .if_icmp .eq 20, 3, [30]), (13, .aload_n 0, 1, []), (14, .iload_n 3, 1, []), (15, .iconst 4, 1, []), (16, .if_icmp .ne 7, 3, [23]), (19, .iconst 1, 1, []), (20, .goto 4, 3, [24]), (23, .iconst 2, 1, []), (24, .invokevirtual 68, 3, [25, 2144, 2147, 1007, 1, 2146, 1]), (27, .pop, 1, []), (28, .iconst (-1), 1, []), (29, .ireturn, 1, []), (30, .aload_n 0, 1, []), (31, .getfield 31, 3, [3, 4, 1211]), (34, .invokevirtual 164, 3, [71, 2225, 2228, 1008, 0, 2226, 2227]), (37, .istore 4, 2, []), (39, .iload 4, 2, []), (41, .iload_n 1, 1, []), (42, .if_icmp .lt 9, 3, [51]), (45, .iload 4, 2, []), (47, .iload_n 2, 1, []), (48, .if_icmp .le 11, 3, [59]), (51, .aload_n 0, 1, []), (52, .iconst 3, 1, []), (53, .invokevirtual 68, 3, [25, 2144, 2147, 1007, 1, 2146, 1]), (56, .pop, 1, []), (57, .iconst (-1), 1, []), (58, .ireturn, 1, []), (59, .iload 4, 2, []), (61, .ireturn, 1, [])])
def zm_24 : zM := (yX3_readSemicolon, cX3_readSemicolon, 2, (some .boolean), 1, 24, [(0, .aload_n 0, 1, []), (1, .getfield 31, 3, [3, 4, 1211]), (4, .invokevirtual 51, 3, [70, 2136, 2139, 1008, 0, 2137, 2138]), (7, .istore_n 1, 1, []), (8, .iload_n 1, 1, []), (9, .iconst 2, 1, []), (10, .if_icmp .ne 5, 3, [15]), (13, .iconst 1, 1, []), (14, .ireturn, 1, []), (15, .aload_n 0, 1, []), (16, .iload_n 1, 1, []), (17, .iconst 4, 1, []), (18, .if_icmp .ne 7, 3, [25]), (21, .iconst 1, 1, []), (22, .goto 4, 3, [26]), (25, .iconst 2, 1, []), (26, .invokevirtual 68, 3, [25, 2144, 2147, 1007, 1, 2146, 1]), (29, .ireturn, 1, [])])
def zm_25 : zM := (yX3_fails, cX3_fails, 2, (some .boolean), 0, 0, [(0, .aload_n 0, 1, []), (1, .iload_n 1, 1, []), (2, .putfield 22, 3, [3, 2, 1207]), (5, .aload_n 0, 1, []), (6, .aload_n 0, 1, []), (7, .getfield 31, 3, [3, 4, 1211]), (10, .getfield 167, 3, [9, 2, 1191]), (13, .putfield 25, 3, [3, 3, 1209]), (16, .iconst 0, 1, []), (17, .ireturn, 1, [])])
def ze_26_0 : List zE := [(0, .aload_n 0, 1, []), (1, .invokespecial 3, 3, [1003, 2000, 1026, 1027]), (4, .aload_n 0, 1, []), (5, .iconst 0, 1, []), (6, .putfield 9, 3, [4, 0, 2004]), (9, .aload_n 0, 1, []), (10, .iconst 0, 1, []), (11, .putfield 15, 3, [4, 1, 2006]), (14, .aload_n 0, 1, []), (15, .iconst 0, 1, []), (16, .putfield 18, 3, [4, 2, 2008]), (19, .aload_n 0, 1, []), (20, .iconst 4, 1, []), (21, .newarray .int, 2, [1087]), (23, .putfield 21, 3, [4, 3, 2010]), (26, .aload_n 0, 1, []), (27, .bipush 10, 2, []), (29, .newarray .int, 2, [1087]), (31, .putfield 25, 3, [4, 4, 2011]), (34, .aload_n 0, 1, []), (35, .iconst 0, 1, []), (36, .putfield 28, 3, [4, 5, 2012]), (39, .aload_n 0, 1, []), (40, .iconst 0, 1, []), (41, .putfield 31, 3, [4, 6, 2013]), (44, .aload_n 0, 1, []), (45, .iconst 4, 1, []), (46, .newarray .int, 2, [1087]), (48, .putfield 34, 3, [4, 7, 2014]), (51, .aload_n 0, 1, []), (52, .iconst 5, 1, []), (53, .anewarray 37, 3, [8, 2001, 2002]), (56, .putfield 39, 3, [4, 8, 2015]), (59, .iconst 0, 1, []), (60, .istore_n 1, 1, []), (61, .iload_n 1, 1, []), (62, .iconst 4, 1, []), (63, .if_icmp .gt 22, 3, [85]), (66, .aload_n 0, 1, []), (67, .getfield 39, 3, [4, 8, 2015])]
def ze_26_1 : List zE := [(70, .iload_n 1, 1, []), (71, .new 37, 3, [8, 2001, 1035, 1003]), (74, .dup, 1, []), (75, .invokespecial 43, 3, [54, 2003, 1038, 1003, 0, 1037, 1]), (78, .aastore, 1, []), (79, .iinc 1 1, 3, []), (82, .goto (-21), 3, [61]), (85, .return_, 1, [])]
def zm_26 : zM := (yX4_init, cX4_init, 2, none, 2, 40, (ze_26_0 ++ (ze_26_1)))
def zm_27 : zM := (yX4_seekBest, cX4_seekBest, 5, none, 5, 115, [(0, .aload_n 0, 1, []), (1, .aload_n 1, 1, []), (2, .iload_n 2, 1, []), (3, .invokevirtual 44, 3, [30, 3239, 4002, 1009, 2, 4001, 15]), (6, .aload_n 0, 1, []), (7, .invokevirtual 48, 3, [35, 4014, 4017, 1009, 0, 4016, 18]), (10, .aload_n 0, 1, []), (11, .invokevirtual 51, 3, [32, 4019, 4022, 1009, 0, 4021, 19]), (14, .iconst 1, 1, []), (15, .isub, 1, []), (16, .istore_n 3, 1, []), (17, .iload_n 3, 1, []), (18, .ifCond .le 64, 3, [82]), (21, .aload_n 0, 1, []), (22, .invokevirtual 55, 3, [33, 4023, 4026, 1009, 0, 4025, 20]), (25, .aload_n 0, 1, []), (26, .getfield 39, 3, [4, 8, 2015]), (29, .aload_n 0, 1, []), (30, .getfield 31, 3, [4, 6, 2013]), (33, .aaload, 1, []), (34, .astore 4, 2, []), (36, .aload 4, 2, []), (38, .getfield 58, 3, [8, 4, 1059]), (41, .aload_n 0, 1, []), (42, .getfield 9, 3, [4, 0, 2004]), (45, .if_icmp .gt 27, 3, [72]), (48, .aload 4, 2, []), (50, .getfield 58, 3, [8, 4, 1059]), (53, .aload_n 0, 1, []), (54, .getfield 9, 3, [4, 0, 2004]), (57, .if_icmp .ne 19, 3, [76]), (60, .aload 4, 2, []), (62, .invokevirtual 61, 3, [67, 4018, 3210, 1003, 0, 3208, 3209]), (65, .aload_n 0, 1, []), (66, .getfield 15, 3, [4, 1, 2006]), (69, .if_icmp .ge 7, 3, [76]), (72, .aload_n 0, 1, []), (73, .invokevirtual 48, 3, [35, 4014, 4017, 1009, 0, 4016, 18]), (76, .iinc 3 (-1), 3, []), (79, .goto (-62), 3, [17]), (82, .return_, 1, [])])
def zm_28 : zM := (yX4_seekFewest, cX4_seekFewest, 4, (some .boolean), 5, 115, [(0, .iconst 0, 1, []), (1, .istore_n 2, 1, []), (2, .iload_n 2, 1, []), (3, .iconst 4, 1, []), (4, .if_icmp .gt 59, 3, [63]), (7, .aload_n 0, 1, []), (8, .aload_n 1, 1, []), (9, .iload_n 2, 1, []), (10, .invokevirtual 44, 3, [30, 3239, 4002, 1009, 2, 4001, 15]), (13, .aload_n 0, 1, []), (14, .invokevirtual 51, 3, [32, 4019, 4022, 1009, 0, 4021, 19]), (17, .istore_n 3, 1, []), (18, .iload_n 3, 1, []), (19, .ifCond .le 38, 3, [57]), (22, .aload_n 0, 1, []), (23, .getfield 39, 3, [4, 8, 2015]), (26, .aload_n 0, 1, []), (27, .getfield 31, 3, [4, 6, 2013]), (30, .aaload, 1, []), (31, .getfield 58, 3, [8, 4, 1059]), (34, .aload_n 1, 1, []), (35, .getfield 64, 3, [8, 1, 1048]), (38, .if_icmp .lt 9, 3, [47]), (41, .aload_n 0, 1, []), (42, .invokevirtual 48, 3, [35, 4014, 4017, 1009, 0, 4016, 18]), (45, .iconst 1, 1, []), (46, .ireturn, 1, []), (47, .aload_n 0, 1, []), (48, .invokevirtual 55, 3, [33, 4023, 4026, 1009, 0, 4025, 20]), (51, .iinc 3 (-1), 3, []), (54, .goto (-36), 3, [18]), (57, .iinc 2 1, 3, []), (60, .goto (-58), 3, [2]), (63, .iconst 0, 1, []), (64, .ireturn, 1, [])])
def zm_29 : zM := (yX4_foundPair, cX4_foundPair, 2, (some .int), 0, 0, [(0, .iload_n 1, 1, []), (1, .ifCond .lt 20, 3, [21]), (4, .iload_n 1, 1, []), (5, .aload_n 0, 1, []), (6, .getfield 18, 3, [4, 2, 2008]), (9, .if_icmp .ge 12, 3, [21]), (12, .aload_n 0, 1, []), (13, .getfield 21, 3, [4, 3, 2010]), (16, .iload_n 1, 1, []), (17, .iaload, 1, []), (18, .goto 5, 3, [23]), (21, .bipush (-4), 2, []), (23, .ireturn, 1, [])])
def zm_30 : zM := (yX4_begin, cX4_begin, 4, none, 4, 92, [(0, .aload_n 0, 1, []), (1, .aload_n 1, 1, []), (2, .getfield 67, 3, [8, 0, 1044]), (5, .invokevirtual 70, 3, [31, 4003, 4006, 1009, 1, 4005, 16]), (8, .aload_n 0, 1, []), (9, .aload_n 0, 1, []), (10, .getfield 28, 3, [4, 5, 2012]), (13, .ifCond .ne 7, 3, [20]), (16, .iconst 0, 1, []), (17, .goto 4, 3, [21]), (20, .iload_n 2, 1, []), (21, .putfield 31, 3, [4, 6, 2013]), (24, .aload_n 0, 1, []), (25, .getfield 39, 3, [4, 8, 2015]), (28, .iconst 0, 1, []), (29, .aaload, 1, []), (30, .aload_n 1, 1, []), (31, .invokevirtual 74, 3, [55, 4007, 3043, 1003, 1, 3041, 3042]), (34, .iconst 0, 1, []), (35, .istore_n 3, 1, []), (36, .iload_n 3, 1, []), (37, .aload_n 0, 1, []), (38, .getfield 31, 3, [4, 6, 2013]), (41, .if_icmp .ge 16, 3, [57]), (44, .aload_n 0, 1, []), (45, .getfield 34, 3, [4, 7, 2014]), (48, .iload_n 3, 1, []), (49, .iconst 0, 1, []), (50, .iastore, 1, []), (51, .iinc 3 1, 3, []), (54, .goto (-18), 3, [36]), (57, .aload_n 0, 1, []), (58, .iconst 0, 1, []), (59, .invokevirtual 78, 3, [34, 4008, 4011, 1009, 1, 4010, 17]), (62, .return_, 1, [])])
def zm_31 : zM := (yX4_listPairs, cX4_listPairs, 4, none, 0, 0, [(0, .aload_n 0, 1, []), (1, .iconst 0, 1, []), (2, .putfield 28, 3, [4, 5, 2012]), (5, .iconst 0, 1, []), (6, .istore_n 2, 1, []), (7, .iload_n 2, 1, []), (8, .iload_n 1, 1, []), (9, .if_icmp .ge 49, 3, [58]), (12, .iload_n 2, 1, []), (13, .iconst 1, 1, []), (14, .iadd, 1, []), (15, .istore_n 3, 1, []), (16, .iload_n 3, 1, []), (17, .iload_n 1, 1, []), (18, .if_icmp .ge 34, 3, [52]), (21, .aload_n 0, 1, []), (22, .getfield 25, 3, [4, 4, 2011]), (25, .aload_n 0, 1, []), (26, .getfield 28, 3, [4, 5, 2012]), (29, .bipush 10, 2, []), (31, .iload_n 2, 1, []), (32, .imul, 1, []), (33, .iload_n 3, 1, []), (34, .iadd, 1, []), (35, .iastore, 1, []), (36, .aload_n 0, 1, []), (37, .dup, 1, []), (38, .getfield 28, 3, [4, 5, 2012]), (41, .iconst 1, 1, []), (42, .iadd, 1, []), (43, .putfield 28, 3, [4, 5, 2012]), (46, .iinc 3 1, 3, []), (49, .goto (-33), 3, [16]), (52, .iinc 2 1, 3, []), (55, .goto (-48), 3, [7]), (58, .return_, 1, [])])
def zm_32 : zM := (yX4_rowCount, cX4_rowCount, 3, (some .int), 0, 0, [(0, .iconst 1, 1, []), (1, .istore_n 1, 1, []), (2, .iconst 0, 1, []), (3, .istore_n 2, 1, []), (4, .iload_n 2, 1, []), (5, .aload_n 0, 1, []), (6, .getfield 31, 3, [4, 6, 2013]), (9, .if_icmp .ge 16, 3, [25]), (12, .iload_n 1, 1, []), (13, .aload_n 0, 1, []), (14, .getfield 28, 3, [4, 5, 2012]), (17, .imul, 1, []), (18, .istore_n 1, 1, []), (19, .iinc 2 1, 3, []), (22, .goto (-18), 3, [4]), (25, .iload_n 1, 1, []), (26, .ireturn, 1, [])])
def zm_33 : zM := (yX4_advance, cX4_advance, 2, none, 4, 92, [(0, .aload_n 0, 1, []), (1, .getfield 31, 3, [4, 6, 2013]), (4, .iconst 1, 1, []), (5, .isub, 1, []), (6, .istore_n 1, 1, []), (7, .iload_n 1, 1, []), (8, .ifCond .lt 31, 3, [39]), (11, .aload_n 0, 1, []), (12, .getfield 34, 3, [4, 7, 2014]), (15, .iload_n 1, 1, []), (16, .iaload, 1, []), (17, .iconst 1, 1, []), (18, .iadd, 1, []), (19, .aload_n 0, 1, []), (20, .getfield 28, 3, [4, 5, 2012]), (23, .if_icmp .lt 16, 3, [39]), (26, .aload_n 0, 1, []), (27, .getfield 34, 3, [4, 7, 2014]), (30, .iload_n 1, 1, []), (31, .iconst 0, 1, []), (32, .iastore, 1, []), (33, .iinc 1 (-1), 3, []), (36, .goto (-29), 3, [7]), (39, .iload_n 1, 1, []), (40, .ifCond .lt 18, 3, [58]), (43, .aload_n 0, 1, []), (44, .getfield 34, 3, [4, 7, 2014]), (47, .iload_n 1, 1, []), (48, .dup2, 1, []), (49, .iaload, 1, []), (50, .iconst 1, 1, []), (51, .iadd, 1, []), (52, .iastore, 1, []), (53, .aload_n 0, 1, []), (54, .iload_n 1, 1, []), (55, .invokevirtual 78, 3, [34, 4008, 4011, 1009, 1, 4010, 17]), (58, .return_, 1, [])])
def zm_34 : zM := (yX4_stirFrom, cX4_stirFrom, 5, none, 3, 68, [(0, .iload_n 1, 1, []), (1, .istore_n 2, 1, []), (2, .iload_n 2, 1, []), (3, .aload_n 0, 1, []), (4, .getfield 31, 3, [4, 6, 2013]), (7, .if_icmp .ge 62, 3, [69]), (10, .aload_n 0, 1, []), (11, .getfield 39, 3, [4, 8, 2015]), (14, .iload_n 2, 1, []), (15, .iconst 1, 1, []), (16, .iadd, 1, []), (17, .aaload, 1, []), (18, .astore_n 3, 1, []), (19, .aload_n 3, 1, []), (20, .aload_n 0, 1, []), (21, .getfield 39, 3, [4, 8, 2015]), (24, .iload_n 2, 1, []), (25, .aaload, 1, []), (26, .invokevirtual 74, 3, [55, 4007, 3043, 1003, 1, 3041, 3042]), (29, .aload_n 0, 1, []), (30, .getfield 25, 3, [4, 4, 2011]), (33, .aload_n 0, 1, []), (34, .getfield 34, 3, [4, 7, 2014]), (37, .iload_n 2, 1, []), (38, .iaload, 1, []), (39, .iaload, 1, []), (40, .istore 4, 2, []), (42, .aload_n 3, 1, []), (43, .invokevirtual 81, 3, [62, 4012, 3185, 1003, 0, 3183, 3184]), (46, .ifCond .eq 17, 3, [63]), (49, .aload_n 3, 1, []), (50, .iload 4, 2, []), (52, .bipush 10, 2, []), (54, .idiv, 1, []), (55, .iload 4, 2, []), (57, .bipush 10, 2, []), (59, .irem, 1, []), (60, .invokevirtual 85, 3, [63, 4013, 3189, 1003, 2, 3187, 3188]), (63, .iinc 2 1, 3, []), (66, .goto (-64), 3, [2]), (69, .return_, 1, [])])
def zm_35 : zM := (yX4_takeRow, cX4_takeRow, 2, none, 1, 22, [(0, .aload_n 0, 1, []), (1, .aload_n 0, 1, []), (2, .getfield 39, 3, [4, 8, 2015]), (5, .aload_n 0, 1, []), (6, .getfield 31, 3, [4, 6, 2013]), (9, .aaload, 1, []), (10, .getfield 58, 3, [8, 4, 1059]), (13, .putfield 9, 3, [4, 0, 2004]), (16, .aload_n 0, 1, []), (17, .aload_n 0, 1, []), (18, .getfield 39, 3, [4, 8, 2015]), (21, .aload_n 0, 1, []), (22, .getfield 31, 3, [4, 6, 2013]), (25, .aaload, 1, []), (26, .invokevirtual 61, 3, [67, 4018, 3210, 1003, 0, 3208, 3209]), (29, .putfield 15, 3, [4, 1, 2006]), (32, .aload_n 0, 1, []), (33, .aload_n 0, 1, []), (34, .getfield 31, 3, [4, 6, 2013]), (37, .putfield 18, 3, [4, 2, 2008]), (40, .iconst 0, 1, []), (41, .istore_n 1, 1, []), (42, .iload_n 1, 1, []), (43, .aload_n 0, 1, []), (44, .getfield 31, 3, [4, 6, 2013]), (47, .if_icmp .ge 26, 3, [73]), (50, .aload_n 0, 1, []), (51, .getfield 21, 3, [4, 3, 2010]), (54, .iload_n 1, 1, []), (55, .aload_n 0, 1, []), (56, .getfield 25, 3, [4, 4, 2011]), (59, .aload_n 0, 1, []), (60, .getfield 34, 3, [4, 7, 2014]), (63, .iload_n 1, 1, []), (64, .iaload, 1, []), (65, .iaload, 1, []), (66, .iastore, 1, []), (67, .iinc 1 1, 3, []), (70, .goto (-28), 3, [42]), (73, .return_, 1, [])])
def zm_36 : zM := (yX5_init, cX5_init, 1, none, 1, 20, [(0, .aload_n 0, 1, []), (1, .invokespecial 3, 3, [1003, 1138, 1026, 1027]), (4, .aload_n 0, 1, []), (5, .iconst 0, 1, []), (6, .putfield 9, 3, [5, 0, 1139]), (9, .aload_n 0, 1, []), (10, .bipush 6, 2, []), (12, .newarray .int, 2, [1087]), (14, .putfield 15, 3, [5, 1, 1142]), (17, .aload_n 0, 1, []), (18, .bipush 6, 2, []), (20, .newarray .int, 2, [1087]), (22, .putfield 19, 3, [5, 2, 1143]), (25, .return_, 1, [])])
def zm_37 : zM := (yX5_copyFrom, cX5_copyFrom, 2, none, 1, 26, [(0, .aload_n 0, 1, []), (1, .aload_n 1, 1, []), (2, .getfield 9, 3, [5, 0, 1139]), (5, .putfield 9, 3, [5, 0, 1139]), (8, .aload_n 1, 1, []), (9, .getfield 15, 3, [5, 1, 1142]), (12, .iconst 0, 1, []), (13, .aload_n 0, 1, []), (14, .getfield 15, 3, [5, 1, 1142]), (17, .iconst 0, 1, []), (18, .bipush 6, 2, []), (20, .invokestatic 22, 3, [1002, 3061, 3046, 3045, 1018]), (23, .aload_n 1, 1, []), (24, .getfield 19, 3, [5, 2, 1143]), (27, .iconst 0, 1, []), (28, .aload_n 0, 1, []), (29, .getfield 19, 3, [5, 2, 1143]), (32, .iconst 0, 1, []), (33, .bipush 6, 2, []), (35, .invokestatic 22, 3, [1002, 3061, 3046, 3045, 1018]), (38, .return_, 1, [])])
def zm_38 : zM := (yX5_isFull, cX5_isFull, 1, (some .boolean), 0, 0, [(0, .aload_n 0, 1, []), (1, .getfield 9, 3, [5, 0, 1139]), (4, .bipush 6, 2, []), (6, .if_icmp .lt 7, 3, [13]), (9, .iconst 1, 1, []), (10, .goto 4, 3, [14]), (13, .iconst 0, 1, []), (14, .ireturn, 1, [])])
def zm_39 : zM := (yX5_add, cX5_add, 3, none, 0, 0, [(0, .aload_n 0, 1, []), (1, .getfield 15, 3, [5, 1, 1142]), (4, .aload_n 0, 1, []), (5, .getfield 9, 3, [5, 0, 1139]), (8, .iload_n 1, 1, []), (9, .iastore, 1, []), (10, .aload_n 0, 1, []), (11, .getfield 19, 3, [5, 2, 1143]), (14, .aload_n 0, 1, []), (15, .getfield 9, 3, [5, 0, 1139]), (18, .iload_n 2, 1, []), (19, .iastore, 1, []), (20, .aload_n 0, 1, []), (21, .dup, 1, []), (22, .getfield 9, 3, [5, 0, 1139]), (25, .iconst 1, 1, []), (26, .iadd, 1, []), (27, .putfield 9, 3, [5, 0, 1139]), (30, .return_, 1, [])])
def zm_40 : zM := (yX5_allows, cX5_allows, 4, (some .boolean), 0, 0, [(0, .iconst 0, 1, []), (1, .istore_n 3, 1, []), (2, .iload_n 3, 1, []), (3, .aload_n 0, 1, []), (4, .getfield 9, 3, [5, 0, 1139]), (7, .if_icmp .ge 31, 3, [38]), (10, .aload_n 0, 1, []), (11, .getfield 15, 3, [5, 1, 1142]), (14, .iload_n 3, 1, []), (15, .iaload, 1, []), (16, .iload_n 1, 1, []), (17, .if_icmp .ne 15, 3, [32]), (20, .aload_n 0, 1, []), (21, .getfield 19, 3, [5, 2, 1143]), (24, .iload_n 3, 1, []), (25, .iaload, 1, []), (26, .iload_n 2, 1, []), (27, .if_icmp .eq 5, 3, [32]), (30, .iconst 0, 1, []), (31, .ireturn, 1, []), (32, .iinc 3 1, 3, []), (35, .goto (-33), 3, [2]), (38, .iconst 1, 1, []), (39, .ireturn, 1, [])])
def zm_41 : zM := (yX6_init, cX6_init, 1, none, 1, 20, [(0, .aload_n 0, 1, []), (1, .invokespecial 3, 3, [1003, 2062, 1026, 1027]), (4, .aload_n 0, 1, []), (5, .iconst (-1), 1, []), (6, .putfield 9, 3, [6, 0, 2063]), (9, .aload_n 0, 1, []), (10, .bipush 40, 2, []), (12, .newarray .int, 2, [1087]), (14, .putfield 15, 3, [6, 1, 2065]), (17, .aload_n 0, 1, []), (18, .iconst 0, 1, []), (19, .putfield 19, 3, [6, 2, 2067]), (22, .return_, 1, [])])
def zm_42 : zM := (yX6_isNothing, cX6_isNothing, 1, (some .boolean), 0, 0, [(0, .aload_n 0, 1, []), (1, .getfield 9, 3, [6, 0, 2063]), (4, .ifCond .ge 7, 3, [11]), (7, .iconst 1, 1, []), (8, .goto 4, 3, [12]), (11, .iconst 0, 1, []), (12, .ireturn, 1, [])])
def zm_43 : zM := (yX6_has, cX6_has, 2, (some .boolean), 0, 0, [(0, .iload_n 1, 1, []), (1, .ifCond .lt 15, 3, [16]), (4, .iload_n 1, 1, []), (5, .aload_n 0, 1, []), (6, .getfield 9, 3, [6, 0, 2063]), (9, .if_icmp .ge 7, 3, [16]), (12, .iconst 1, 1, []), (13, .goto 4, 3, [17]), (16, .iconst 0, 1, []), (17, .ireturn, 1, [])])
def zm_44 : zM := (yX6_renew, cX6_renew, 4, none, 0, 0, [(0, .aload_n 0, 1, []), (1, .iload_n 1, 1, []), (2, .putfield 19, 3, [6, 2, 2067]), (5, .aload_n 0, 1, []), (6, .iload_n 2, 1, []), (7, .putfield 9, 3, [6, 0, 2063]), (10, .iconst 0, 1, []), (11, .istore_n 3, 1, []), (12, .iload_n 3, 1, []), (13, .iload_n 2, 1, []), (14, .if_icmp .ge 16, 3, [30]), (17, .aload_n 0, 1, []), (18, .getfield 15, 3, [6, 1, 2065]), (21, .iload_n 3, 1, []), (22, .iconst 0, 1, []), (23, .iastore, 1, []), (24, .iinc 3 1, 3, []), (27, .goto (-15), 3, [12]), (30, .return_, 1, [])])
def zm_45 : zM := (yX6_layDown, cX6_layDown, 3, none, 0, 0, [(0, .aload_n 0, 1, []), (1, .getfield 19, 3, [6, 2, 2067]), (4, .ifCond .ne 14, 3, [18]), (7, .aload_n 0, 1, []), (8, .getfield 15, 3, [6, 1, 2065]), (11, .iload_n 1, 1, []), (12, .iload_n 2, 1, []), (13, .i2b, 1, []), (14, .iastore, 1, []), (15, .goto 23, 3, [38]), (18, .aload_n 0, 1, []), (19, .getfield 15, 3, [6, 1, 2065]), (22, .iload_n 1, 1, []), (23, .aload_n 0, 1, []), (24, .getfield 19, 3, [6, 2, 2067]), (27, .iconst 1, 1, []), (28, .if_icmp .ne 8, 3, [36]), (31, .iload_n 2, 1, []), (32, .i2s, 1, []), (33, .goto 4, 3, [37]), (36, .iload_n 2, 1, []), (37, .iastore, 1, []), (38, .return_, 1, [])])
def zm_46 : zM := (yX6_faultAs, cX6_faultAs, 2, (some .int), 1, 20, [(0, .aload_n 0, 1, []), (1, .invokevirtual 22, 3, [42, 4191, 4174, 1011, 0, 4172, 4173]), (4, .ifCond .eq 5, 3, [9]), (7, .iconst 1, 1, []), (8, .ireturn, 1, []), (9, .iload_n 1, 1, []), (10, .aload_n 0, 1, []), (11, .getfield 19, 3, [6, 2, 2067]), (14, .if_icmp .ne 7, 3, [21]), (17, .iconst 0, 1, []), (18, .goto 4, 3, [22]), (21, .iconst 3, 1, []), (22, .ireturn, 1, [])])
def zm_47 : zM := (yX7_init, cX7_init, 1, none, 1, 20, [(0, .aload_n 0, 1, []), (1, .invokespecial 3, 3, [1003, 1093, 1026, 1027]), (4, .aload_n 0, 1, []), (5, .iconst 0, 1, []), (6, .putfield 9, 3, [7, 0, 1094]), (9, .aload_n 0, 1, []), (10, .iconst 0, 1, []), (11, .putfield 15, 3, [7, 1, 1097]), (14, .aload_n 0, 1, []), (15, .bipush 6, 2, []), (17, .newarray .int, 2, [1087]), (19, .putfield 18, 3, [7, 2, 1100]), (22, .aload_n 0, 1, []), (23, .bipush 6, 2, []), (25, .newarray .int, 2, [1087]), (27, .putfield 22, 3, [7, 3, 1102]), (30, .aload_n 0, 1, []), (31, .bipush 6, 2, []), (33, .newarray .int, 2, [1087]), (35, .putfield 25, 3, [7, 4, 1104]), (38, .return_, 1, [])])
def zm_48 : zM := (yX7_copyFrom, cX7_copyFrom, 2, none, 1, 26, [(0, .aload_n 0, 1, []), (1, .aload_n 1, 1, []), (2, .getfield 9, 3, [7, 0, 1094]), (5, .putfield 9, 3, [7, 0, 1094]), (8, .aload_n 0, 1, []), (9, .aload_n 1, 1, []), (10, .getfield 15, 3, [7, 1, 1097]), (13, .putfield 15, 3, [7, 1, 1097]), (16, .aload_n 1, 1, []), (17, .getfield 18, 3, [7, 2, 1100]), (20, .iconst 0, 1, []), (21, .aload_n 0, 1, []), (22, .getfield 18, 3, [7, 2, 1100]), (25, .iconst 0, 1, []), (26, .bipush 6, 2, []), (28, .invokestatic 28, 3, [1002, 3051, 3046, 3045, 1018]), (31, .aload_n 1, 1, []), (32, .getfield 22, 3, [7, 3, 1102]), (35, .iconst 0, 1, []), (36, .aload_n 0, 1, []), (37, .getfield 22, 3, [7, 3, 1102]), (40, .iconst 0, 1, []), (41, .bipush 6, 2, []), (43, .invokestatic 28, 3, [1002, 3051, 3046, 3045, 1018]), (46, .aload_n 1, 1, []), (47, .getfield 25, 3, [7, 4, 1104]), (50, .iconst 0, 1, []), (51, .aload_n 0, 1, []), (52, .getfield 25, 3, [7, 4, 1104]), (55, .iconst 0, 1, []), (56, .bipush 6, 2, []), (58, .invokestatic 28, 3, [1002, 3051, 3046, 3045, 1018]), (61, .return_, 1, [])])
def zm_49 : zM := (yX7_has, cX7_has, 2, (some .boolean), 0, 0, [(0, .iload_n 1, 1, []), (1, .ifCond .lt 15, 3, [16]), (4, .iload_n 1, 1, []), (5, .aload_n 0, 1, []), (6, .getfield 9, 3, [7, 0, 1094]), (9, .if_icmp .ge 7, 3, [16]), (12, .iconst 1, 1, []), (13, .goto 4, 3, [17]), (16, .iconst 0, 1, []), (17, .ireturn, 1, [])])
def zm_50 : zM := (yX7_isUsed, cX7_isUsed, 2, (some .boolean), 0, 0, [(0, .aload_n 0, 1, []), (1, .getfield 15, 3, [7, 1, 1097]), (4, .iload_n 1, 1, []), (5, .ishr, 1, []), (6, .iconst 1, 1, []), (7, .iand, 1, []), (8, .iconst 1, 1, []), (9, .if_icmp .ne 7, 3, [16]), (12, .iconst 1, 1, []), (13, .goto 4, 3, [17]), (16, .iconst 0, 1, []), (17, .ireturn, 1, [])])
def zm_51 : zM := (yX7_isFull, cX7_isFull, 1, (some .boolean), 0, 0, [(0, .aload_n 0, 1, []), (1, .getfield 9, 3, [7, 0, 1094]), (4, .bipush 6, 2, []), (6, .if_icmp .lt 7, 3, [13]), (9, .iconst 1, 1, []), (10, .goto 4, 3, [14]), (13, .iconst 0, 1, []), (14, .ireturn, 1, [])])
def zm_52 : zM := (yX7_add, cX7_add, 4, none, 0, 0, [(0, .aload_n 0, 1, []), (1, .getfield 18, 3, [7, 2, 1100]), (4, .aload_n 0, 1, []), (5, .getfield 9, 3, [7, 0, 1094]), (8, .iload_n 1, 1, []), (9, .iastore, 1, []), (10, .aload_n 0, 1, []), (11, .getfield 22, 3, [7, 3, 1102]), (14, .aload_n 0, 1, []), (15, .getfield 9, 3, [7, 0, 1094]), (18, .iload_n 2, 1, []), (19, .iastore, 1, []), (20, .aload_n 0, 1, []), (21, .getfield 25, 3, [7, 4, 1104]), (24, .aload_n 0, 1, []), (25, .getfield 9, 3, [7, 0, 1094]), (28, .iload_n 3, 1, []), (29, .iastore, 1, []), (30, .aload_n 0, 1, []), (31, .dup, 1, []), (32, .getfield 9, 3, [7, 0, 1094]), (35, .iconst 1, 1, []), (36, .iadd, 1, []), (37, .putfield 9, 3, [7, 0, 1094]), (40, .return_, 1, [])])
def zm_53 : zM := (yX7_worsen, cX7_worsen, 4, (some .int), 1, 23, [(0, .bipush 9, 2, []), (2, .aload_n 1, 1, []), (3, .aload_n 0, 1, []), (4, .getfield 18, 3, [7, 2, 1100]), (7, .iload_n 2, 1, []), (8, .iaload, 1, []), (9, .aload_n 0, 1, []), (10, .getfield 22, 3, [7, 3, 1102]), (13, .iload_n 2, 1, []), (14, .iaload, 1, []), (15, .invokevirtual 34, 3, [58, 3124, 3090, 1003, 2, 3088, 3089]), (18, .aload_n 0, 1, []), (19, .getfield 25, 3, [7, 4, 1104]), (22, .iload_n 2, 1, []), (23, .iaload, 1, []), (24, .iadd, 1, []), (25, .invokestatic 40, 3, [1001, 3125, 3029, 1017, 3030]), (28, .istore_n 3, 1, []), (29, .aload_n 1, 1, []), (30, .aload_n 0, 1, []), (31, .getfield 18, 3, [7, 2, 1100]), (34, .iload_n 2, 1, []), (35, .iaload, 1, []), (36, .aload_n 0, 1, []), (37, .getfield 22, 3, [7, 3, 1102]), (40, .iload_n 2, 1, []), (41, .iaload, 1, []), (42, .iload_n 3, 1, []), (43, .invokevirtual 45, 3, [59, 3126, 2235, 1003, 3, 2233, 2234]), (46, .iload_n 3, 1, []), (47, .ireturn, 1, [])])
def zm_54 : zM := (yX8_init, cX8_init, 1, none, 1, 20, [(0, .aload_n 0, 1, []), (1, .invokespecial 3, 3, [1003, 1039, 1026, 1027]), (4, .aload_n 0, 1, []), (5, .iconst 0, 1, []), (6, .putfield 9, 3, [8, 0, 1040]), (9, .aload_n 0, 1, []), (10, .bipush 20, 2, []), (12, .putfield 15, 3, [8, 1, 1046]), (15, .aload_n 0, 1, []), (16, .bipush 8, 2, []), (18, .putfield 18, 3, [8, 2, 1051]), (21, .aload_n 0, 1, []), (22, .iconst 0, 1, []), (23, .putfield 21, 3, [8, 3, 1055]), (26, .aload_n 0, 1, []), (27, .iconst 0, 1, []), (28, .putfield 24, 3, [8, 4, 1058]), (31, .aload_n 0, 1, []), (32, .iconst 0, 1, []), (33, .putfield 27, 3, [8, 5, 1062]), (36, .aload_n 0, 1, []), (37, .iconst 5, 1, []), (38, .newarray .int, 2, [1087]), (40, .putfield 31, 3, [8, 6, 1065]), (43, .aload_n 0, 1, []), (44, .bipush 25, 2, []), (46, .newarray .int, 2, [1087]), (48, .putfield 35, 3, [8, 7, 1068]), (51, .return_, 1, [])])
def zm_55 : zM := (yX8_copyFrom, cX8_copyFrom, 2, none, 1, 26, [(0, .aload_n 0, 1, []), (1, .aload_n 1, 1, []), (2, .getfield 9, 3, [8, 0, 1040]), (5, .putfield 9, 3, [8, 0, 1040]), (8, .aload_n 0, 1, []), (9, .aload_n 1, 1, []), (10, .getfield 15, 3, [8, 1, 1046]), (13, .putfield 15, 3, [8, 1, 1046]), (16, .aload_n 0, 1, []), (17, .aload_n 1, 1, []), (18, .getfield 18, 3, [8, 2, 1051]), (21, .putfield 18, 3, [8, 2, 1051]), (24, .aload_n 0, 1, []), (25, .aload_n 1, 1, []), (26, .getfield 21, 3, [8, 3, 1055]), (29, .putfield 21, 3, [8, 3, 1055]), (32, .aload_n 0, 1, []), (33, .aload_n 1, 1, []), (34, .getfield 24, 3, [8, 4, 1058]), (37, .putfield 24, 3, [8, 4, 1058]), (40, .aload_n 0, 1, []), (41, .aload_n 1, 1, []), (42, .getfield 27, 3, [8, 5, 1062]), (45, .putfield 27, 3, [8, 5, 1062]), (48, .aload_n 1, 1, []), (49, .getfield 31, 3, [8, 6, 1065]), (52, .iconst 0, 1, []), (53, .aload_n 0, 1, []), (54, .getfield 31, 3, [8, 6, 1065]), (57, .iconst 0, 1, []), (58, .iconst 5, 1, []), (59, .invokestatic 38, 3, [1002, 3044, 3046, 3045, 1018]), (62, .aload_n 1, 1, []), (63, .getfield 35, 3, [8, 7, 1068]), (66, .iconst 0, 1, []), (67, .aload_n 0, 1, []), (68, .getfield 35, 3, [8, 7, 1068]), (71, .iconst 0, 1, []), (72, .bipush 25, 2, []), (74, .invokestatic 38, 3, [1002, 3044, 3046, 3045, 1018]), (77, .return_, 1, [])])
def zm_56 : zM := (yX8_isHelper, cX8_isHelper, 2, (some .boolean), 0, 0, [(0, .iload_n 1, 1, []), (1, .ifCond .lt 15, 3, [16]), (4, .iload_n 1, 1, []), (5, .aload_n 0, 1, []), (6, .getfield 9, 3, [8, 0, 1040]), (9, .if_icmp .ge 7, 3, [16]), (12, .iconst 1, 1, []), (13, .goto 4, 3, [17]), (16, .iconst 0, 1, []), (17, .ireturn, 1, [])])
def zm_57 : zM := (yX8_areTwo, cX8_areTwo, 3, (some .boolean), 1, 21, [(0, .aload_n 0, 1, []), (1, .iload_n 1, 1, []), (2, .invokevirtual 44, 3, [56, 3086, 3077, 1003, 1, 3075, 3076]), (5, .ifCond .eq 20, 3, [25]), (8, .aload_n 0, 1, []), (9, .iload_n 2, 1, []), (10, .invokevirtual 44, 3, [56, 3086, 3077, 1003, 1, 3075, 3076]), (13, .ifCond .eq 12, 3, [25]), (16, .iload_n 1, 1, []), (17, .iload_n 2, 1, []), (18, .if_icmp .eq 7, 3, [25]), (21, .iconst 1, 1, []), (22, .goto 4, 3, [26]), (25, .iconst 0, 1, []), (26, .ireturn, 1, [])])
def zm_58 : zM := (yX8_hatredOf, cX8_hatredOf, 3, (some .int), 0, 0, [(0, .aload_n 0, 1, []), (1, .getfield 35, 3, [8, 7, 1068]), (4, .iload_n 1, 1, []), (5, .iconst 5, 1, []), (6, .imul, 1, []), (7, .iload_n 2, 1, []), (8, .iadd, 1, []), (9, .iaload, 1, []), (10, .ireturn, 1, [])])
def zm_59 : zM := (yX8_setHatred, cX8_setHatred, 4, none, 0, 0, [(0, .aload_n 0, 1, []), (1, .getfield 35, 3, [8, 7, 1068]), (4, .iload_n 1, 1, []), (5, .iconst 5, 1, []), (6, .imul, 1, []), (7, .iload_n 2, 1, []), (8, .iadd, 1, []), (9, .iload_n 3, 1, []), (10, .iastore, 1, []), (11, .return_, 1, [])])
def zm_60 : zM := (yX8_feelingOf, cX8_feelingOf, 4, (some .int), 0, 0, [(0, .aload_n 0, 1, []), (1, .getfield 35, 3, [8, 7, 1068]), (4, .iload_n 1, 1, []), (5, .iconst 5, 1, []), (6, .imul, 1, []), (7, .iload_n 2, 1, []), (8, .iadd, 1, []), (9, .iaload, 1, []), (10, .istore_n 3, 1, []), (11, .aload_n 0, 1, []), (12, .getfield 31, 3, [8, 6, 1065]), (15, .iload_n 1, 1, []), (16, .iaload, 1, []), (17, .tableswitch 54 1 3 #[27, 39, 50], 27, []), (44, .iload_n 3, 1, []), (45, .ifCond .le 9, 3, [54]), (48, .iload_n 3, 1, []), (49, .iconst 1, 1, []), (50, .isub, 1, []), (51, .goto 4, 3, [55]), (54, .iconst 0, 1, []), (55, .ireturn, 1, []), (56, .iload_n 3, 1, []), (57, .iconst 3, 1, []), (58, .if_icmp .ge 7, 3, [65]), (61, .iload_n 3, 1, []), (62, .goto 4, 3, [66]), (65, .iconst 3, 1, []), (66, .ireturn, 1, []), (67, .iconst 2, 1, []), (68, .iload_n 3, 1, []), (69, .imul, 1, []), (70, .ireturn, 1, []), (71, .iload_n 3, 1, []), (72, .ireturn, 1, [])])
def zm_61 : zM := (yX8_turnOf, cX8_turnOf, 3, (some .int), 1, 23, [(0, .aload_n 0, 1, []), (1, .iload_n 1, 1, []), (2, .iload_n 2, 1, []), (3, .invokevirtual 48, 3, [60, 3176, 3094, 1003, 2, 3092, 3093]), (6, .aload_n 0, 1, []), (7, .iload_n 2, 1, []), (8, .iload_n 1, 1, []), (9, .invokevirtual 48, 3, [60, 3176, 3094, 1003, 2, 3092, 3093]), (12, .invokestatic 52, 3, [1001, 3177, 3029, 1017, 3030]), (15, .ireturn, 1, [])])
def zm_62 : zM := (yX8_canBeStirred, cX8_canBeStirred, 1, (some .boolean), 0, 0, [(0, .aload_n 0, 1, []), (1, .getfield 27, 3, [8, 5, 1062]), (4, .ifCond .ne 18, 3, [22]), (7, .aload_n 0, 1, []), (8, .getfield 21, 3, [8, 3, 1055]), (11, .aload_n 0, 1, []), (12, .getfield 18, 3, [8, 2, 1051]), (15, .if_icmp .ge 7, 3, [22]), (18, .iconst 1, 1, []), (19, .goto 4, 3, [23]), (22, .iconst 0, 1, []), (23, .ireturn, 1, [])])
def zm_63 : zM := (yX8_stirOnce, cX8_stirOnce, 3, none, 2, 46, [(0, .aload_n 0, 1, []), (1, .iload_n 1, 1, []), (2, .iload_n 2, 1, []), (3, .invokevirtual 57, 3, [58, 3140, 3090, 1003, 2, 3088, 3089]), (6, .ifCond .ne 20, 3, [26]), (9, .aload_n 0, 1, []), (10, .iload_n 2, 1, []), (11, .iload_n 1, 1, []), (12, .invokevirtual 57, 3, [58, 3140, 3090, 1003, 2, 3088, 3089]), (15, .ifCond .ne 11, 3, [26]), (18, .aload_n 0, 1, []), (19, .iconst 1, 1, []), (20, .putfield 27, 3, [8, 5, 1062]), (23, .goto 24, 3, [47]), (26, .aload_n 0, 1, []), (27, .sipush 999, 3, []), (30, .aload_n 0, 1, []), (31, .getfield 24, 3, [8, 4, 1058]), (34, .aload_n 0, 1, []), (35, .iload_n 1, 1, []), (36, .iload_n 2, 1, []), (37, .invokevirtual 60, 3, [61, 3190, 3175, 1003, 2, 3173, 3174]), (40, .iadd, 1, []), (41, .invokestatic 52, 3, [1001, 3177, 3029, 1017, 3030]), (44, .putfield 24, 3, [8, 4, 1058]), (47, .aload_n 0, 1, []), (48, .iload_n 1, 1, []), (49, .iload_n 2, 1, []), (50, .invokevirtual 63, 3, [64, 3191, 3194, 1003, 2, 3193, 13]), (53, .aload_n 0, 1, []), (54, .iload_n 2, 1, []), (55, .iload_n 1, 1, []), (56, .invokevirtual 63, 3, [64, 3191, 3194, 1003, 2, 3193, 13]), (59, .aload_n 0, 1, []), (60, .dup, 1, []), (61, .getfield 21, 3, [8, 3, 1055]), (64, .iconst 1, 1, []), (65, .iadd, 1, []), (66, .putfield 21, 3, [8, 3, 1055]), (69, .return_, 1, [])])
def zm_64 : zM := (yX8_cool, cX8_cool, 4, none, 1, 23, [(0, .iconst 1, 1, []), (1, .istore_n 3, 1, []), (2, .aload_n 0, 1, []), (3, .getfield 31, 3, [8, 6, 1065]), (6, .iload_n 1, 1, []), (7, .iaload, 1, []), (8, .iconst 1, 1, []), (9, .if_icmp .ne 13, 3, [22]), (12, .aload_n 0, 1, []), (13, .getfield 21, 3, [8, 3, 1055]), (16, .iconst 2, 1, []), (17, .irem, 1, []), (18, .istore_n 3, 1, []), (19, .goto 15, 3, [34]), (22, .aload_n 0, 1, []), (23, .getfield 31, 3, [8, 6, 1065]), (26, .iload_n 1, 1, []), (27, .iaload, 1, []), (28, .iconst 3, 1, []), (29, .if_icmp .ne 5, 3, [34]), (32, .iconst 2, 1, []), (33, .istore_n 3, 1, []), (34, .aload_n 0, 1, []), (35, .iload_n 1, 1, []), (36, .iload_n 2, 1, []), (37, .iconst 0, 1, []), (38, .aload_n 0, 1, []), (39, .iload_n 1, 1, []), (40, .iload_n 2, 1, []), (41, .invokevirtual 57, 3, [58, 3140, 3090, 1003, 2, 3088, 3089]), (44, .iload_n 3, 1, []), (45, .isub, 1, []), (46, .invokestatic 67, 3, [1000, 3195, 2230, 1017, 2231]), (49, .invokevirtual 70, 3, [59, 3141, 2235, 1003, 3, 2233, 2234]), (52, .return_, 1, [])])
def zm_65 : zM := (yX8_stirsIfMay, cX8_stirsIfMay, 4, (some .boolean), 3, 68, [(0, .aload_n 0, 1, []), (1, .iload_n 1, 1, []), (2, .iload_n 2, 1, []), (3, .invokevirtual 74, 3, [57, 4196, 3085, 1003, 2, 3083, 3084]), (6, .ifCond .eq 14, 3, [20]), (9, .aload_n 0, 1, []), (10, .invokevirtual 78, 3, [62, 4197, 3185, 1003, 0, 3183, 3184]), (13, .ifCond .eq 7, 3, [20]), (16, .iconst 1, 1, []), (17, .goto 4, 3, [21]), (20, .iconst 0, 1, []), (21, .istore_n 3, 1, []), (22, .iload_n 3, 1, []), (23, .ifCond .eq 9, 3, [32]), (26, .aload_n 0, 1, []), (27, .iload_n 1, 1, []), (28, .iload_n 2, 1, []), (29, .invokevirtual 82, 3, [63, 4198, 3189, 1003, 2, 3187, 3188]), (32, .iload_n 3, 1, []), (33, .ireturn, 1, [])])
def zm_66 : zM := (yX8_forgiveAll, cX8_forgiveAll, 4, (some .int), 1, 23, [(0, .iconst 0, 1, []), (1, .istore_n 2, 1, []), (2, .iconst 0, 1, []), (3, .istore_n 3, 1, []), (4, .iload_n 3, 1, []), (5, .aload_n 0, 1, []), (6, .getfield 9, 3, [8, 0, 1040]), (9, .if_icmp .ge 33, 3, [42]), (12, .iload_n 3, 1, []), (13, .iload_n 1, 1, []), (14, .if_icmp .eq 22, 3, [36]), (17, .aload_n 0, 1, []), (18, .iload_n 1, 1, []), (19, .iload_n 3, 1, []), (20, .invokevirtual 57, 3, [58, 3140, 3090, 1003, 2, 3088, 3089]), (23, .ifCond .le 13, 3, [36]), (26, .aload_n 0, 1, []), (27, .iload_n 1, 1, []), (28, .iload_n 3, 1, []), (29, .iconst 0, 1, []), (30, .invokevirtual 70, 3, [59, 3141, 2235, 1003, 3, 2233, 2234]), (33, .iinc 2 1, 3, []), (36, .iinc 3 1, 3, []), (39, .goto (-35), 3, [4]), (42, .iload_n 2, 1, []), (43, .ireturn, 1, [])])
def zm_67 : zM := (yX8_allHatred, cX8_allHatred, 3, (some .int), 0, 0, [(0, .iconst 0, 1, []), (1, .istore_n 1, 1, []), (2, .iconst 0, 1, []), (3, .istore_n 2, 1, []), (4, .iload_n 2, 1, []), (5, .aload_n 0, 1, []), (6, .getfield 35, 3, [8, 7, 1068]), (9, .arraylength, 1, []), (10, .if_icmp .ge 18, 3, [28]), (13, .iload_n 1, 1, []), (14, .aload_n 0, 1, []), (15, .getfield 35, 3, [8, 7, 1068]), (18, .iload_n 2, 1, []), (19, .iaload, 1, []), (20, .iadd, 1, []), (21, .istore_n 1, 1, []), (22, .iinc 2 1, 3, []), (25, .goto (-21), 3, [4]), (28, .iload_n 1, 1, []), (29, .ireturn, 1, [])])
def zm_68 : zM := (yX9_init, cX9_init, 1, none, 1, 20, [(0, .aload_n 0, 1, []), (1, .invokespecial 3, 3, [1003, 1185, 1026, 1027]), (4, .aload_n 0, 1, []), (5, .sipush 160, 3, []), (8, .newarray .byte, 2, [1202]), (10, .putfield 9, 3, [9, 0, 1186]), (13, .aload_n 0, 1, []), (14, .iconst 0, 1, []), (15, .putfield 15, 3, [9, 1, 1188]), (18, .aload_n 0, 1, []), (19, .iconst 0, 1, []), (20, .putfield 19, 3, [9, 2, 1190]), (23, .aload_n 0, 1, []), (24, .iconst 0, 1, []), (25, .putfield 22, 3, [9, 3, 1192]), (28, .return_, 1, [])])
def zm_69 : zM := (yX9_rewind, cX9_rewind, 1, none, 0, 0, [(0, .aload_n 0, 1, []), (1, .iconst 0, 1, []), (2, .putfield 22, 3, [9, 3, 1192]), (5, .return_, 1, [])])
def ze_70_0 : List zE := [(0, .aload_n 0, 1, []), (1, .getfield 22, 3, [9, 3, 1192]), (4, .aload_n 0, 1, []), (5, .getfield 15, 3, [9, 1, 1188]), (8, .if_icmp .ge 30, 3, [38]), (11, .aload_n 0, 1, []), (12, .getfield 9, 3, [9, 0, 1186]), (15, .aload_n 0, 1, []), (16, .getfield 22, 3, [9, 3, 1192]), (19, .baload, 1, []), (20, .bipush 32, 2, []), (22, .if_icmp .ne 16, 3, [38]), (25, .aload_n 0, 1, []), (26, .dup, 1, []), (27, .getfield 22, 3, [9, 3, 1192]), (30, .iconst 1, 1, []), (31, .iadd, 1, []), (32, .putfield 22, 3, [9, 3, 1192]), (35, .goto (-35), 3, [0]), (38, .aload_n 0, 1, []), (39, .aload_n 0, 1, []), (40, .getfield 22, 3, [9, 3, 1192]), (43, .putfield 19, 3, [9, 2, 1190]), (46, .aload_n 0, 1, []), (47, .getfield 22, 3, [9, 3, 1192]), (50, .aload_n 0, 1, []), (51, .getfield 15, 3, [9, 1, 1188]), (54, .if_icmp .lt 5, 3, [59]), (57, .iconst 3, 1, []), (58, .ireturn, 1, []), (59, .aload_n 0, 1, []), (60, .getfield 9, 3, [9, 0, 1186]), (63, .aload_n 0, 1, []), (64, .getfield 22, 3, [9, 3, 1192]), (67, .baload, 1, []), (68, .bipush 59, 2, []), (70, .if_icmp .ne 15, 3, [85]), (73, .aload_n 0, 1, []), (74, .dup, 1, []), (75, .getfield 22, 3, [9, 3, 1192])]
def ze_70_1 : List zE := [(78, .iconst 1, 1, []), (79, .iadd, 1, []), (80, .putfield 22, 3, [9, 3, 1192]), (83, .iconst 2, 1, []), (84, .ireturn, 1, []), (85, .aload_n 0, 1, []), (86, .getfield 9, 3, [9, 0, 1186]), (89, .aload_n 0, 1, []), (90, .getfield 22, 3, [9, 3, 1192]), (93, .baload, 1, []), (94, .bipush 97, 2, []), (96, .if_icmp .lt 7, 3, [103]), (99, .iconst 1, 1, []), (100, .goto 4, 3, [104]), (103, .iconst 0, 1, []), (104, .istore_n 1, 1, []), (105, .iload_n 1, 1, []), (106, .ifCond .eq 8, 3, [114]), (109, .bipush 97, 2, []), (111, .goto 5, 3, [116]), (114, .bipush 48, 2, []), (116, .istore_n 2, 1, []), (117, .iload_n 1, 1, []), (118, .ifCond .eq 8, 3, [126]), (121, .bipush 122, 2, []), (123, .goto 5, 3, [128]), (126, .bipush 57, 2, []), (128, .istore_n 3, 1, []), (129, .aload_n 0, 1, []), (130, .getfield 22, 3, [9, 3, 1192]), (133, .aload_n 0, 1, []), (134, .getfield 15, 3, [9, 1, 1188]), (137, .if_icmp .ge 42, 3, [179]), (140, .aload_n 0, 1, []), (141, .getfield 9, 3, [9, 0, 1186]), (144, .aload_n 0, 1, []), (145, .getfield 22, 3, [9, 3, 1192]), (148, .baload, 1, []), (149, .iload_n 2, 1, []), (150, .if_icmp .lt 29, 3, [179])]
def ze_70_2 : List zE := [(153, .aload_n 0, 1, []), (154, .getfield 9, 3, [9, 0, 1186]), (157, .aload_n 0, 1, []), (158, .getfield 22, 3, [9, 3, 1192]), (161, .baload, 1, []), (162, .iload_n 3, 1, []), (163, .if_icmp .gt 16, 3, [179]), (166, .aload_n 0, 1, []), (167, .dup, 1, []), (168, .getfield 22, 3, [9, 3, 1192]), (171, .iconst 1, 1, []), (172, .iadd, 1, []), (173, .putfield 22, 3, [9, 3, 1192]), (176, .goto (-47), 3, [129]), (179, .aload_n 0, 1, []), (180, .getfield 22, 3, [9, 3, 1192]), (183, .aload_n 0, 1, []), (184, .getfield 19, 3, [9, 2, 1190]), (187, .isub, 1, []), (188, .istore 4, 2, []), (190, .iload_n 1, 1, []), (191, .ifCond .eq 14, 3, [205]), (194, .iload 4, 2, []), (196, .ifCond .le 7, 3, [203]), (199, .iconst 0, 1, []), (200, .goto 4, 3, [204]), (203, .iconst 4, 1, []), (204, .ireturn, 1, []), (205, .iload 4, 2, []), (207, .ifCond .le 13, 3, [220]), (210, .iload 4, 2, []), (212, .iconst 2, 1, []), (213, .if_icmp .gt 7, 3, [220]), (216, .iconst 1, 1, []), (217, .goto 4, 3, [221]), (220, .iconst 4, 1, []), (221, .ireturn, 1, [])]
def zm_70 : zM := (yX9_readToken, cX9_readToken, 5, (some .int), 0, 0, (ze_70_0 ++ (ze_70_1 ++ (ze_70_2))))
def zm_71 : zM := (yX9_number, cX9_number, 3, (some .int), 0, 0, [(0, .iconst 0, 1, []), (1, .istore_n 1, 1, []), (2, .aload_n 0, 1, []), (3, .getfield 19, 3, [9, 2, 1190]), (6, .istore_n 2, 1, []), (7, .iload_n 2, 1, []), (8, .aload_n 0, 1, []), (9, .getfield 22, 3, [9, 3, 1192]), (12, .if_icmp .ge 24, 3, [36]), (15, .bipush 10, 2, []), (17, .iload_n 1, 1, []), (18, .imul, 1, []), (19, .aload_n 0, 1, []), (20, .getfield 9, 3, [9, 0, 1186]), (23, .iload_n 2, 1, []), (24, .baload, 1, []), (25, .iadd, 1, []), (26, .bipush 48, 2, []), (28, .isub, 1, []), (29, .istore_n 1, 1, []), (30, .iinc 2 1, 3, []), (33, .goto (-26), 3, [7]), (36, .iload_n 1, 1, []), (37, .ireturn, 1, [])])
def zm_72 : zM := (yX9_isName, cX9_isName, 3, (some .boolean), 4, 85, [(0, .aload_n 0, 1, []), (1, .getfield 22, 3, [9, 3, 1192]), (4, .aload_n 0, 1, []), (5, .getfield 19, 3, [9, 2, 1190]), (8, .isub, 1, []), (9, .aload_n 1, 1, []), (10, .invokevirtual 25, 3, [231, 2157, 2160, 1013, 0, 2158, 2159]), (13, .if_icmp .eq 5, 3, [18]), (16, .iconst 0, 1, []), (17, .ireturn, 1, []), (18, .iconst 0, 1, []), (19, .istore_n 2, 1, []), (20, .iload_n 2, 1, []), (21, .aload_n 1, 1, []), (22, .invokevirtual 25, 3, [231, 2157, 2160, 1013, 0, 2158, 2159]), (25, .if_icmp .ge 30, 3, [55]), (28, .aload_n 0, 1, []), (29, .getfield 9, 3, [9, 0, 1186]), (32, .aload_n 0, 1, []), (33, .getfield 19, 3, [9, 2, 1190]), (36, .iload_n 2, 1, []), (37, .iadd, 1, []), (38, .baload, 1, []), (39, .aload_n 1, 1, []), (40, .iload_n 2, 1, []), (41, .invokevirtual 30, 3, [232, 2167, 2170, 1013, 1, 2168, 2169]), (44, .if_icmp .eq 5, 3, [49]), (47, .iconst 0, 1, []), (48, .ireturn, 1, []), (49, .iinc 2 1, 3, []), (52, .goto (-32), 3, [20]), (55, .iconst 1, 1, []), (56, .ireturn, 1, [])])
def ze_73_0 : List zE := [(0, .aload_n 0, 1, []), (1, .invokespecial 1, 3, [1003, 1025, 1026, 1027]), (4, .aload_n 0, 1, []), (5, .new 7, 3, [0, 1028, 1029, 1002]), (8, .dup, 1, []), (9, .invokespecial 9, 3, [0, 1030, 1032, 1002, 0, 1031, 1]), (12, .putfield 10, 3, [10, 0, 2075]), (15, .aload_n 0, 1, []), (16, .iconst 2, 1, []), (17, .anewarray 7, 3, [0, 1028, 1171]), (20, .putfield 16, 3, [10, 1, 2076]), (23, .aload_n 0, 1, []), (24, .iconst 0, 1, []), (25, .putfield 20, 3, [10, 2, 2077]), (28, .aload_n 0, 1, []), (29, .new 24, 3, [3, 1172, 1173, 1007]), (32, .dup, 1, []), (33, .invokespecial 26, 3, [13, 1174, 1176, 1007, 0, 1175, 1]), (36, .putfield 27, 3, [10, 3, 2078]), (39, .aload_n 0, 1, []), (40, .aload_n 0, 1, []), (41, .getfield 27, 3, [10, 3, 2078]), (44, .getfield 31, 3, [3, 4, 1212]), (47, .putfield 35, 3, [10, 4, 2079]), (50, .aload_n 0, 1, []), (51, .new 36, 3, [8, 1233, 1035, 1003]), (54, .dup, 1, []), (55, .invokespecial 38, 3, [54, 1234, 1038, 1003, 0, 1037, 1]), (58, .putfield 39, 3, [10, 5, 2080]), (61, .aload_n 0, 1, []), (62, .new 43, 3, [4, 1235, 1236, 1009]), (65, .dup, 1, []), (66, .invokespecial 45, 3, [26, 1237, 1239, 1009, 0, 1238, 0]), (69, .putfield 46, 3, [10, 6, 2081]), (72, .aload_n 0, 1, []), (73, .new 50, 3, [1, 2035, 2036, 1010]), (76, .dup, 1, []), (77, .invokespecial 52, 3, [3, 2037, 2039, 1010, 0, 2038, 1]), (80, .putfield 53, 3, [10, 7, 2082]), (83, .aload_n 0, 1, [])]
def ze_73_1 : List zE := [(84, .iconst 4, 1, []), (85, .anewarray 57, 3, [6, 2056, 2057]), (88, .putfield 59, 3, [10, 8, 2083]), (91, .aload_n 0, 1, []), (92, .iconst 0, 1, []), (93, .putfield 63, 3, [10, 9, 2084]), (96, .aload_n 0, 1, []), (97, .iconst 0, 1, []), (98, .putfield 66, 3, [10, 10, 2085]), (101, .iconst 0, 1, []), (102, .istore_n 1, 1, []), (103, .iload_n 1, 1, []), (104, .iconst 2, 1, []), (105, .if_icmp .ge 22, 3, [127]), (108, .aload_n 0, 1, []), (109, .getfield 16, 3, [10, 1, 2076]), (112, .iload_n 1, 1, []), (113, .new 7, 3, [0, 1028, 1029, 1002]), (116, .dup, 1, []), (117, .invokespecial 9, 3, [0, 1030, 1032, 1002, 0, 1031, 1]), (120, .aastore, 1, []), (121, .iinc 1 1, 3, []), (124, .goto (-21), 3, [103]), (127, .iconst 0, 1, []), (128, .istore_n 1, 1, []), (129, .iload_n 1, 1, []), (130, .iconst 4, 1, []), (131, .if_icmp .ge 22, 3, [153]), (134, .aload_n 0, 1, []), (135, .getfield 59, 3, [10, 8, 2083]), (138, .iload_n 1, 1, []), (139, .new 57, 3, [6, 2056, 2058, 1011]), (142, .dup, 1, []), (143, .invokespecial 69, 3, [41, 2059, 2061, 1011, 0, 2060, 1]), (146, .aastore, 1, []), (147, .iinc 1 1, 3, []), (150, .goto (-21), 3, [129]), (153, .return_, 1, [])]
def zm_73 : zM := (yX10_init, cX10_init, 2, none, 4, 80, (ze_73_0 ++ (ze_73_1)))
def zm_74 : zM := (yX10_feed, cX10_feed, 2, (some .int), 1, 22, [(0, .iload_n 1, 1, []), (1, .iconst 0, 1, []), (2, .bipush 127, 2, []), (4, .invokestatic 70, 3, [129, 2113, 2115, 1001, 3, 2114]), (7, .ifCond .ne 5, 3, [12]), (10, .iconst (-1), 1, []), (11, .ireturn, 1, []), (12, .aload_n 0, 1, []), (13, .getfield 35, 3, [10, 4, 2079]), (16, .getfield 74, 3, [9, 1, 1189]), (19, .sipush 160, 3, []), (22, .if_icmp .lt 6, 3, [28]), (25, .bipush (-3), 2, []), (27, .ireturn, 1, []), (28, .aload_n 0, 1, []), (29, .getfield 35, 3, [10, 4, 2079]), (32, .getfield 79, 3, [9, 0, 1187]), (35, .aload_n 0, 1, []), (36, .getfield 35, 3, [10, 4, 2079]), (39, .getfield 74, 3, [9, 1, 1189]), (42, .iload_n 1, 1, []), (43, .i2b, 1, []), (44, .bastore, 1, []), (45, .aload_n 0, 1, []), (46, .getfield 35, 3, [10, 4, 2079]), (49, .dup, 1, []), (50, .getfield 74, 3, [9, 1, 1189]), (53, .iconst 1, 1, []), (54, .iadd, 1, []), (55, .putfield 74, 3, [9, 1, 1189]), (58, .aload_n 0, 1, []), (59, .getfield 35, 3, [10, 4, 2079]), (62, .getfield 74, 3, [9, 1, 1189]), (65, .ireturn, 1, [])])
def zm_75 : zM := (yX10_end, cX10_end, 3, (some .int), 1, 22, [(0, .iload_n 1, 1, []), (1, .iconst 0, 1, []), (2, .aload_n 0, 1, []), (3, .getfield 35, 3, [10, 4, 2079]), (6, .getfield 74, 3, [9, 1, 1189]), (9, .invokestatic 70, 3, [129, 2113, 2115, 1001, 3, 2114]), (12, .ifCond .ne 5, 3, [17]), (15, .iconst (-1), 1, []), (16, .ireturn, 1, []), (17, .aload_n 0, 1, []), (18, .getfield 35, 3, [10, 4, 2079]), (21, .getfield 74, 3, [9, 1, 1189]), (24, .istore_n 2, 1, []), (25, .aload_n 0, 1, []), (26, .getfield 35, 3, [10, 4, 2079]), (29, .iload_n 1, 1, []), (30, .putfield 74, 3, [9, 1, 1189]), (33, .iload_n 2, 1, []), (34, .ireturn, 1, [])])
def zm_76 : zM := (yX10_text, cX10_text, 2, (some .int), 8, 170, [(0, .aload_n 0, 1, []), (1, .getfield 27, 3, [10, 3, 2078]), (4, .invokevirtual 83, 3, [14, 2124, 2127, 1007, 0, 2125, 2126]), (7, .istore_n 1, 1, []), (8, .aload_n 0, 1, []), (9, .getfield 35, 3, [10, 4, 2079]), (12, .iconst 0, 1, []), (13, .putfield 74, 3, [9, 1, 1189]), (16, .aload_n 0, 1, []), (17, .aload_n 0, 1, []), (18, .getfield 27, 3, [10, 3, 2078]), (21, .getfield 87, 3, [3, 2, 1208]), (24, .putfield 63, 3, [10, 9, 2084]), (27, .iload_n 1, 1, []), (28, .ifCond .ne 14, 3, [42]), (31, .bipush (-10), 2, []), (33, .aload_n 0, 1, []), (34, .getfield 27, 3, [10, 3, 2078]), (37, .getfield 90, 3, [3, 3, 1210]), (40, .isub, 1, []), (41, .ireturn, 1, []), (42, .aload_n 0, 1, []), (43, .getfield 10, 3, [10, 0, 2075]), (46, .aload_n 0, 1, []), (47, .getfield 27, 3, [10, 3, 2078]), (50, .getfield 93, 3, [3, 0, 1204]), (53, .invokevirtual 96, 3, [1, 3036, 3039, 1002, 1, 3037, 3038]), (56, .aload_n 0, 1, []), (57, .iconst 0, 1, []), (58, .putfield 20, 3, [10, 2, 2077]), (61, .aload_n 0, 1, []), (62, .getfield 27, 3, [10, 3, 2078]), (65, .getfield 100, 3, [3, 1, 1206]), (68, .ireturn, 1, [])])
def zm_77 : zM := (yX10_fault, cX10_fault, 1, (some .int), 0, 0, [(0, .aload_n 0, 1, []), (1, .getfield 63, 3, [10, 9, 2084]), (4, .ireturn, 1, [])])
def ze_78_0 : List zE := [(0, .iload_n 1, 1, []), (1, .tableswitch 158 0 8 #[51, 62, 73, 84, 95, 106, 125, 136, 147], 51, []), (52, .aload_n 0, 1, []), (53, .getfield 10, 3, [10, 0, 2075]), (56, .getfield 103, 3, [0, 0, 1153]), (59, .getfield 106, 3, [8, 0, 1045]), (62, .ireturn, 1, []), (63, .aload_n 0, 1, []), (64, .getfield 10, 3, [10, 0, 2075]), (67, .getfield 103, 3, [0, 0, 1153]), (70, .getfield 109, 3, [8, 1, 1049]), (73, .ireturn, 1, []), (74, .aload_n 0, 1, []), (75, .getfield 10, 3, [10, 0, 2075]), (78, .getfield 103, 3, [0, 0, 1153]), (81, .getfield 112, 3, [8, 2, 1053]), (84, .ireturn, 1, []), (85, .aload_n 0, 1, []), (86, .getfield 10, 3, [10, 0, 2075]), (89, .getfield 103, 3, [0, 0, 1153]), (92, .getfield 115, 3, [8, 3, 1057]), (95, .ireturn, 1, []), (96, .aload_n 0, 1, []), (97, .getfield 10, 3, [10, 0, 2075]), (100, .getfield 103, 3, [0, 0, 1153]), (103, .getfield 118, 3, [8, 4, 1061]), (106, .ireturn, 1, []), (107, .aload_n 0, 1, []), (108, .getfield 10, 3, [10, 0, 2075]), (111, .getfield 103, 3, [0, 0, 1153]), (114, .getfield 121, 3, [8, 5, 1064]), (117, .ifCond .eq 7, 3, [124]), (120, .iconst 1, 1, []), (121, .goto 4, 3, [125]), (124, .iconst 0, 1, []), (125, .ireturn, 1, []), (126, .aload_n 0, 1, []), (127, .getfield 10, 3, [10, 0, 2075]), (130, .getfield 125, 3, [0, 1, 1155]), (133, .getfield 129, 3, [7, 0, 1096])]
def ze_78_1 : List zE := [(136, .ireturn, 1, []), (137, .aload_n 0, 1, []), (138, .getfield 10, 3, [10, 0, 2075]), (141, .getfield 125, 3, [0, 1, 1155]), (144, .getfield 134, 3, [7, 1, 1099]), (147, .ireturn, 1, []), (148, .aload_n 0, 1, []), (149, .getfield 10, 3, [10, 0, 2075]), (152, .getfield 137, 3, [0, 2, 1158]), (155, .getfield 141, 3, [2, 0, 1125]), (158, .ireturn, 1, []), (159, .iconst (-1), 1, []), (160, .ireturn, 1, [])]
def zm_78 : zM := (yX10_rule, cX10_rule, 2, (some .int), 0, 0, (ze_78_0 ++ (ze_78_1)))
def zm_79 : zM := (yX10_helper, cX10_helper, 2, (some .int), 1, 21, [(0, .aload_n 0, 1, []), (1, .getfield 10, 3, [10, 0, 2075]), (4, .getfield 103, 3, [0, 0, 1153]), (7, .iload_n 1, 1, []), (8, .invokevirtual 144, 3, [56, 3074, 3077, 1003, 1, 3075, 3076]), (11, .ifCond .eq 18, 3, [29]), (14, .aload_n 0, 1, []), (15, .getfield 10, 3, [10, 0, 2075]), (18, .getfield 103, 3, [0, 0, 1153]), (21, .getfield 148, 3, [8, 6, 1067]), (24, .iload_n 1, 1, []), (25, .iaload, 1, []), (26, .goto 4, 3, [30]), (29, .iconst (-1), 1, []), (30, .ireturn, 1, [])])
def zm_80 : zM := (yX10_hatred, cX10_hatred, 4, (some .int), 2, 43, [(0, .aload_n 0, 1, []), (1, .getfield 10, 3, [10, 0, 2075]), (4, .getfield 103, 3, [0, 0, 1153]), (7, .iload_n 1, 1, []), (8, .iload_n 2, 1, []), (9, .invokevirtual 152, 3, [57, 3082, 3085, 1003, 2, 3083, 3084]), (12, .ifCond .eq 12, 3, [24]), (15, .iload_n 3, 1, []), (16, .iconst 0, 1, []), (17, .iconst 1, 1, []), (18, .invokestatic 70, 3, [129, 2113, 2115, 1001, 3, 2114]), (21, .ifCond .ne 5, 3, [26]), (24, .iconst (-1), 1, []), (25, .ireturn, 1, []), (26, .iload_n 3, 1, []), (27, .ifCond .ne 18, 3, [45]), (30, .aload_n 0, 1, []), (31, .getfield 10, 3, [10, 0, 2075]), (34, .getfield 103, 3, [0, 0, 1153]), (37, .iload_n 1, 1, []), (38, .iload_n 2, 1, []), (39, .invokevirtual 156, 3, [58, 3087, 3090, 1003, 2, 3088, 3089]), (42, .goto 15, 3, [57]), (45, .aload_n 0, 1, []), (46, .getfield 10, 3, [10, 0, 2075]), (49, .getfield 103, 3, [0, 0, 1153]), (52, .iload_n 1, 1, []), (53, .iload_n 2, 1, []), (54, .invokevirtual 160, 3, [60, 3091, 3094, 1003, 2, 3092, 3093]), (57, .ireturn, 1, [])])
def zm_81 : zM := (yX10_slip, cX10_slip, 3, (some .int), 1, 21, [(0, .aload_n 0, 1, []), (1, .getfield 10, 3, [10, 0, 2075]), (4, .getfield 125, 3, [0, 1, 1155]), (7, .iload_n 1, 1, []), (8, .invokevirtual 163, 3, [49, 3099, 3102, 1004, 1, 3100, 3101]), (11, .ifCond .ne 5, 3, [16]), (14, .iconst (-1), 1, []), (15, .ireturn, 1, []), (16, .iload_n 2, 1, []), (17, .tableswitch 90 0 3 #[31, 44, 57, 70], 31, []), (48, .aload_n 0, 1, []), (49, .getfield 10, 3, [10, 0, 2075]), (52, .getfield 125, 3, [0, 1, 1155]), (55, .getfield 166, 3, [7, 2, 1101]), (58, .iload_n 1, 1, []), (59, .iaload, 1, []), (60, .ireturn, 1, []), (61, .aload_n 0, 1, []), (62, .getfield 10, 3, [10, 0, 2075]), (65, .getfield 125, 3, [0, 1, 1155]), (68, .getfield 168, 3, [7, 3, 1103]), (71, .iload_n 1, 1, []), (72, .iaload, 1, []), (73, .ireturn, 1, []), (74, .aload_n 0, 1, []), (75, .getfield 10, 3, [10, 0, 2075]), (78, .getfield 125, 3, [0, 1, 1155]), (81, .getfield 171, 3, [7, 4, 1105]), (84, .iload_n 1, 1, []), (85, .iaload, 1, []), (86, .ireturn, 1, []), (87, .aload_n 0, 1, []), (88, .getfield 10, 3, [10, 0, 2075]), (91, .getfield 125, 3, [0, 1, 1155]), (94, .iload_n 1, 1, []), (95, .invokevirtual 174, 3, [50, 3103, 3106, 1004, 1, 3104, 3105]), (98, .ifCond .eq 7, 3, [105]), (101, .iconst 1, 1, []), (102, .goto 4, 3, [106]), (105, .iconst 0, 1, []), (106, .ireturn, 1, []), (107, .iconst (-1), 1, []), (108, .ireturn, 1, [])])
def zm_82 : zM := (yX10_plan, cX10_plan, 2, (some .int), 0, 0, [(0, .iload_n 1, 1, []), (1, .ifCond .lt 32, 3, [33]), (4, .iload_n 1, 1, []), (5, .aload_n 0, 1, []), (6, .getfield 10, 3, [10, 0, 2075]), (9, .getfield 137, 3, [0, 2, 1158]), (12, .getfield 141, 3, [2, 0, 1125]), (15, .if_icmp .ge 18, 3, [33]), (18, .aload_n 0, 1, []), (19, .getfield 10, 3, [10, 0, 2075]), (22, .getfield 137, 3, [0, 2, 1158]), (25, .getfield 177, 3, [2, 1, 1127]), (28, .iload_n 1, 1, []), (29, .iaload, 1, []), (30, .goto 4, 3, [34]), (33, .iconst (-1), 1, []), (34, .ireturn, 1, [])])
def zm_83 : zM := (yX10_hate, cX10_hate, 5, (some .int), 2, 43, [(0, .aload_n 0, 1, []), (1, .getfield 10, 3, [10, 0, 2075]), (4, .getfield 103, 3, [0, 0, 1153]), (7, .iload_n 1, 1, []), (8, .iload_n 2, 1, []), (9, .invokevirtual 152, 3, [57, 3082, 3085, 1003, 2, 3083, 3084]), (12, .ifCond .eq 13, 3, [25]), (15, .iload_n 3, 1, []), (16, .iconst 0, 1, []), (17, .bipush 9, 2, []), (19, .invokestatic 70, 3, [129, 2113, 2115, 1001, 3, 2114]), (22, .ifCond .ne 5, 3, [27]), (25, .iconst (-1), 1, []), (26, .ireturn, 1, []), (27, .aload_n 0, 1, []), (28, .getfield 10, 3, [10, 0, 2075]), (31, .getfield 103, 3, [0, 0, 1153]), (34, .iload_n 1, 1, []), (35, .iload_n 2, 1, []), (36, .invokevirtual 156, 3, [58, 3087, 3090, 1003, 2, 3088, 3089]), (39, .istore 4, 2, []), (41, .aload_n 0, 1, []), (42, .getfield 10, 3, [10, 0, 2075]), (45, .getfield 103, 3, [0, 0, 1153]), (48, .iload_n 1, 1, []), (49, .iload_n 2, 1, []), (50, .iload_n 3, 1, []), (51, .invokevirtual 180, 3, [59, 3115, 2235, 1003, 3, 2233, 2234]), (54, .iload 4, 2, []), (56, .ireturn, 1, [])])
def zm_84 : zM := (yX10_use, cX10_use, 2, (some .int), 2, 46, [(0, .aload_n 0, 1, []), (1, .getfield 10, 3, [10, 0, 2075]), (4, .getfield 125, 3, [0, 1, 1155]), (7, .iload_n 1, 1, []), (8, .invokevirtual 163, 3, [49, 3099, 3102, 1004, 1, 3100, 3101]), (11, .ifCond .ne 5, 3, [16]), (14, .iconst (-1), 1, []), (15, .ireturn, 1, []), (16, .aload_n 0, 1, []), (17, .getfield 10, 3, [10, 0, 2075]), (20, .getfield 125, 3, [0, 1, 1155]), (23, .iload_n 1, 1, []), (24, .invokevirtual 174, 3, [50, 3103, 3106, 1004, 1, 3104, 3105]), (27, .ifCond .eq 6, 3, [33]), (30, .bipush (-2), 2, []), (32, .ireturn, 1, []), (33, .aload_n 0, 1, []), (34, .getfield 10, 3, [10, 0, 2075]), (37, .getfield 125, 3, [0, 1, 1155]), (40, .dup, 1, []), (41, .getfield 134, 3, [7, 1, 1099]), (44, .iconst 1, 1, []), (45, .iload_n 1, 1, []), (46, .ishl, 1, []), (47, .ior, 1, []), (48, .putfield 134, 3, [7, 1, 1099]), (51, .aload_n 0, 1, []), (52, .getfield 10, 3, [10, 0, 2075]), (55, .getfield 125, 3, [0, 1, 1155]), (58, .aload_n 0, 1, []), (59, .getfield 10, 3, [10, 0, 2075]), (62, .getfield 103, 3, [0, 0, 1153]), (65, .iload_n 1, 1, []), (66, .invokevirtual 184, 3, [53, 3120, 3123, 1004, 2, 3121, 3122]), (69, .ireturn, 1, [])])
def zm_85 : zM := (yX10_tell, cX10_tell, 4, (some .int), 2, 43, [(0, .aload_n 0, 1, []), (1, .getfield 10, 3, [10, 0, 2075]), (4, .getfield 103, 3, [0, 0, 1153]), (7, .iload_n 1, 1, []), (8, .iload_n 2, 1, []), (9, .invokevirtual 152, 3, [57, 3082, 3085, 1003, 2, 3083, 3084]), (12, .ifCond .ne 5, 3, [17]), (15, .iconst (-1), 1, []), (16, .ireturn, 1, []), (17, .aload_n 0, 1, []), (18, .getfield 10, 3, [10, 0, 2075]), (21, .getfield 103, 3, [0, 0, 1153]), (24, .iload_n 1, 1, []), (25, .iload_n 2, 1, []), (26, .invokevirtual 156, 3, [58, 3087, 3090, 1003, 2, 3088, 3089]), (29, .aload_n 0, 1, []), (30, .getfield 10, 3, [10, 0, 2075]), (33, .getfield 103, 3, [0, 0, 1153]), (36, .iload_n 2, 1, []), (37, .iload_n 1, 1, []), (38, .invokevirtual 156, 3, [58, 3087, 3090, 1003, 2, 3088, 3089]), (41, .invokestatic 188, 3, [1000, 3131, 2230, 1017, 2231]), (44, .istore_n 3, 1, []), (45, .aload_n 0, 1, []), (46, .getfield 10, 3, [10, 0, 2075]), (49, .getfield 103, 3, [0, 0, 1153]), (52, .iload_n 1, 1, []), (53, .iload_n 2, 1, []), (54, .iload_n 3, 1, []), (55, .invokevirtual 180, 3, [59, 3115, 2235, 1003, 3, 2233, 2234]), (58, .iload_n 3, 1, []), (59, .ireturn, 1, [])])
def zm_86 : zM := (yX10_forgive, cX10_forgive, 2, (some .int), 2, 46, [(0, .aload_n 0, 1, []), (1, .getfield 10, 3, [10, 0, 2075]), (4, .getfield 103, 3, [0, 0, 1153]), (7, .iload_n 1, 1, []), (8, .invokevirtual 144, 3, [56, 3074, 3077, 1003, 1, 3075, 3076]), (11, .ifCond .eq 17, 3, [28]), (14, .aload_n 0, 1, []), (15, .getfield 10, 3, [10, 0, 2075]), (18, .getfield 103, 3, [0, 0, 1153]), (21, .iload_n 1, 1, []), (22, .invokevirtual 193, 3, [66, 3136, 3139, 1003, 1, 3137, 3138]), (25, .goto 4, 3, [29]), (28, .iconst (-1), 1, []), (29, .ireturn, 1, [])])
def zm_87 : zM := (yX10_teach, cX10_teach, 4, (some .int), 1, 22, [(0, .aload_n 0, 1, []), (1, .getfield 10, 3, [10, 0, 2075]), (4, .getfield 103, 3, [0, 0, 1153]), (7, .iload_n 1, 1, []), (8, .invokevirtual 144, 3, [56, 3074, 3077, 1003, 1, 3075, 3076]), (11, .ifCond .eq 12, 3, [23]), (14, .iload_n 2, 1, []), (15, .iconst 0, 1, []), (16, .iconst 3, 1, []), (17, .invokestatic 70, 3, [129, 2113, 2115, 1001, 3, 2114]), (20, .ifCond .ne 5, 3, [25]), (23, .iconst (-1), 1, []), (24, .ireturn, 1, []), (25, .aload_n 0, 1, []), (26, .getfield 10, 3, [10, 0, 2075]), (29, .getfield 103, 3, [0, 0, 1153]), (32, .getfield 148, 3, [8, 6, 1067]), (35, .iload_n 1, 1, []), (36, .iaload, 1, []), (37, .istore_n 3, 1, []), (38, .aload_n 0, 1, []), (39, .getfield 10, 3, [10, 0, 2075]), (42, .getfield 103, 3, [0, 0, 1153]), (45, .getfield 148, 3, [8, 6, 1067]), (48, .iload_n 1, 1, []), (49, .iload_n 2, 1, []), (50, .iastore, 1, []), (51, .iload_n 3, 1, []), (52, .ireturn, 1, [])])
def zm_88 : zM := (yX10_set, cX10_set, 3, (some .int), 1, 22, [(0, .iload_n 1, 1, []), (1, .iconst 0, 1, []), (2, .iconst 1, 1, []), (3, .invokestatic 70, 3, [129, 2113, 2115, 1001, 3, 2114]), (6, .ifCond .eq 22, 3, [28]), (9, .iload_n 2, 1, []), (10, .iconst 1, 1, []), (11, .iload_n 1, 1, []), (12, .ifCond .ne 8, 3, [20]), (15, .bipush 99, 2, []), (17, .goto 5, 3, [22]), (20, .bipush 12, 2, []), (22, .invokestatic 70, 3, [129, 2113, 2115, 1001, 3, 2114]), (25, .ifCond .ne 5, 3, [30]), (28, .iconst (-1), 1, []), (29, .ireturn, 1, []), (30, .iload_n 1, 1, []), (31, .ifCond .ne 11, 3, [42]), (34, .aload_n 0, 1, []), (35, .iload_n 2, 1, []), (36, .invokevirtual 197, 3, [89, 3150, 3153, 1001, 1, 3152, 11]), (39, .goto 8, 3, [47]), (42, .aload_n 0, 1, []), (43, .iload_n 2, 1, []), (44, .invokevirtual 200, 3, [90, 3154, 3157, 1001, 1, 3156, 12]), (47, .ireturn, 1, [])])
def zm_89 : zM := (yX10_changeNeed, cX10_changeNeed, 3, (some .int), 0, 0, [(0, .aload_n 0, 1, []), (1, .getfield 10, 3, [10, 0, 2075]), (4, .getfield 103, 3, [0, 0, 1153]), (7, .getfield 109, 3, [8, 1, 1049]), (10, .istore_n 2, 1, []), (11, .aload_n 0, 1, []), (12, .getfield 10, 3, [10, 0, 2075]), (15, .getfield 103, 3, [0, 0, 1153]), (18, .iload_n 1, 1, []), (19, .putfield 109, 3, [8, 1, 1049]), (22, .iload_n 2, 1, []), (23, .ireturn, 1, [])])
def zm_90 : zM := (yX10_changeNoon, cX10_changeNoon, 3, (some .int), 0, 0, [(0, .aload_n 0, 1, []), (1, .getfield 10, 3, [10, 0, 2075]), (4, .getfield 103, 3, [0, 0, 1153]), (7, .getfield 115, 3, [8, 3, 1057]), (10, .iload_n 1, 1, []), (11, .if_icmp .le 6, 3, [17]), (14, .bipush (-2), 2, []), (16, .ireturn, 1, []), (17, .aload_n 0, 1, []), (18, .getfield 10, 3, [10, 0, 2075]), (21, .getfield 103, 3, [0, 0, 1153]), (24, .getfield 112, 3, [8, 2, 1053]), (27, .istore_n 2, 1, []), (28, .aload_n 0, 1, []), (29, .getfield 10, 3, [10, 0, 2075]), (32, .getfield 103, 3, [0, 0, 1153]), (35, .iload_n 1, 1, []), (36, .putfield 112, 3, [8, 2, 1053]), (39, .iload_n 2, 1, []), (40, .ireturn, 1, [])])
def zm_91 : zM := (yX10_plans, cX10_plans, 3, (some .int), 2, 43, [(0, .aload_n 0, 1, []), (1, .getfield 10, 3, [10, 0, 2075]), (4, .getfield 103, 3, [0, 0, 1153]), (7, .iload_n 1, 1, []), (8, .iload_n 2, 1, []), (9, .invokevirtual 152, 3, [57, 3082, 3085, 1003, 2, 3083, 3084]), (12, .ifCond .ne 5, 3, [17]), (15, .iconst (-1), 1, []), (16, .ireturn, 1, []), (17, .aload_n 0, 1, []), (18, .getfield 10, 3, [10, 0, 2075]), (21, .getfield 137, 3, [0, 2, 1158]), (24, .invokevirtual 203, 3, [10, 3162, 3023, 1005, 0, 3021, 3022]), (27, .ifCond .eq 6, 3, [33]), (30, .bipush (-3), 2, []), (32, .ireturn, 1, []), (33, .aload_n 0, 1, []), (34, .getfield 10, 3, [10, 0, 2075]), (37, .getfield 137, 3, [0, 2, 1158]), (40, .iload_n 1, 1, []), (41, .iload_n 2, 1, []), (42, .invokevirtual 206, 3, [11, 3163, 3027, 1005, 2, 3025, 3026]), (45, .aload_n 0, 1, []), (46, .getfield 10, 3, [10, 0, 2075]), (49, .getfield 137, 3, [0, 2, 1158]), (52, .getfield 141, 3, [2, 0, 1125]), (55, .ireturn, 1, [])])
def zm_92 : zM := (yX10_cut, cX10_cut, 3, (some .int), 1, 22, [(0, .iload_n 1, 1, []), (1, .iconst 0, 1, []), (2, .aload_n 0, 1, []), (3, .getfield 10, 3, [10, 0, 2075]), (6, .getfield 137, 3, [0, 2, 1158]), (9, .getfield 141, 3, [2, 0, 1125]), (12, .invokestatic 70, 3, [129, 2113, 2115, 1001, 3, 2114]), (15, .ifCond .ne 5, 3, [20]), (18, .iconst (-1), 1, []), (19, .ireturn, 1, []), (20, .aload_n 0, 1, []), (21, .getfield 10, 3, [10, 0, 2075]), (24, .getfield 137, 3, [0, 2, 1158]), (27, .getfield 141, 3, [2, 0, 1125]), (30, .istore_n 2, 1, []), (31, .aload_n 0, 1, []), (32, .getfield 10, 3, [10, 0, 2075]), (35, .getfield 137, 3, [0, 2, 1158]), (38, .iload_n 1, 1, []), (39, .putfield 141, 3, [2, 0, 1125]), (42, .iload_n 2, 1, []), (43, .ireturn, 1, [])])
def zm_93 : zM := (yX10_turn, cX10_turn, 3, (some .int), 2, 45, [(0, .aload_n 0, 1, []), (1, .getfield 10, 3, [10, 0, 2075]), (4, .getfield 103, 3, [0, 0, 1153]), (7, .iload_n 1, 1, []), (8, .iload_n 2, 1, []), (9, .invokevirtual 152, 3, [57, 3082, 3085, 1003, 2, 3083, 3084]), (12, .ifCond .eq 18, 3, [30]), (15, .aload_n 0, 1, []), (16, .getfield 10, 3, [10, 0, 2075]), (19, .getfield 103, 3, [0, 0, 1153]), (22, .iload_n 1, 1, []), (23, .iload_n 2, 1, []), (24, .invokevirtual 210, 3, [61, 3172, 3175, 1003, 2, 3173, 3174]), (27, .goto 4, 3, [31]), (30, .iconst (-1), 1, []), (31, .ireturn, 1, [])])
def zm_94 : zM := (yX10_stir, cX10_stir, 3, (some .int), 3, 68, [(0, .aload_n 0, 1, []), (1, .getfield 10, 3, [10, 0, 2075]), (4, .getfield 103, 3, [0, 0, 1153]), (7, .iload_n 1, 1, []), (8, .iload_n 2, 1, []), (9, .invokevirtual 152, 3, [57, 3082, 3085, 1003, 2, 3083, 3084]), (12, .ifCond .ne 5, 3, [17]), (15, .iconst (-1), 1, []), (16, .ireturn, 1, []), (17, .aload_n 0, 1, []), (18, .getfield 10, 3, [10, 0, 2075]), (21, .getfield 103, 3, [0, 0, 1153]), (24, .invokevirtual 213, 3, [62, 3182, 3185, 1003, 0, 3183, 3184]), (27, .ifCond .ne 6, 3, [33]), (30, .bipush (-2), 2, []), (32, .ireturn, 1, []), (33, .aload_n 0, 1, []), (34, .getfield 10, 3, [10, 0, 2075]), (37, .getfield 103, 3, [0, 0, 1153]), (40, .iload_n 1, 1, []), (41, .iload_n 2, 1, []), (42, .invokevirtual 216, 3, [63, 3186, 3189, 1003, 2, 3187, 3188]), (45, .aload_n 0, 1, []), (46, .getfield 10, 3, [10, 0, 2075]), (49, .getfield 103, 3, [0, 0, 1153]), (52, .getfield 118, 3, [8, 4, 1061]), (55, .ireturn, 1, [])])
def zm_95 : zM := (yX10_runs, cX10_runs, 3, (some .int), 4, 90, [(0, .iload_n 1, 1, []), (1, .iconst 0, 1, []), (2, .iconst 4, 1, []), (3, .invokestatic 70, 3, [129, 2113, 2115, 1001, 3, 2114]), (6, .ifCond .ne 5, 3, [11]), (9, .iconst (-1), 1, []), (10, .ireturn, 1, []), (11, .aload_n 0, 1, []), (12, .getfield 39, 3, [10, 5, 2080]), (15, .aload_n 0, 1, []), (16, .getfield 10, 3, [10, 0, 2075]), (19, .getfield 103, 3, [0, 0, 1153]), (22, .invokevirtual 219, 3, [55, 3200, 3043, 1003, 1, 3041, 3042]), (25, .aload_n 0, 1, []), (26, .getfield 10, 3, [10, 0, 2075]), (29, .getfield 137, 3, [0, 2, 1158]), (32, .aload_n 0, 1, []), (33, .getfield 39, 3, [10, 5, 2080]), (36, .invokevirtual 222, 3, [12, 3201, 3204, 1005, 1, 3202, 3203]), (39, .istore_n 2, 1, []), (40, .iload_n 1, 1, []), (41, .tableswitch 71 0 3 #[31, 39, 47, 63], 31, []), (72, .aload_n 0, 1, []), (73, .getfield 39, 3, [10, 5, 2080]), (76, .getfield 118, 3, [8, 4, 1061]), (79, .ireturn, 1, []), (80, .aload_n 0, 1, []), (81, .getfield 39, 3, [10, 5, 2080]), (84, .getfield 115, 3, [8, 3, 1057]), (87, .ireturn, 1, []), (88, .aload_n 0, 1, []), (89, .getfield 39, 3, [10, 5, 2080]), (92, .getfield 121, 3, [8, 5, 1064]), (95, .ifCond .eq 7, 3, [102]), (98, .iconst 1, 1, []), (99, .goto 4, 3, [103]), (102, .iconst 0, 1, []), (103, .ireturn, 1, []), (104, .aload_n 0, 1, []), (105, .getfield 39, 3, [10, 5, 2080]), (108, .invokevirtual 226, 3, [67, 3207, 3210, 1003, 0, 3208, 3209]), (111, .ireturn, 1, []), (112, .iload_n 2, 1, []), (113, .ireturn, 1, [])])
def zm_96 : zM := (yX10_ahead, cX10_ahead, 5, (some .int), 3, 68, [(0, .aload_n 0, 1, []), (1, .getfield 10, 3, [10, 0, 2075]), (4, .getfield 103, 3, [0, 0, 1153]), (7, .iload_n 1, 1, []), (8, .iload_n 2, 1, []), (9, .invokevirtual 152, 3, [57, 3082, 3085, 1003, 2, 3083, 3084]), (12, .ifCond .eq 13, 3, [25]), (15, .iload_n 3, 1, []), (16, .iconst 0, 1, []), (17, .bipush 12, 2, []), (19, .invokestatic 70, 3, [129, 2113, 2115, 1001, 3, 2114]), (22, .ifCond .ne 5, 3, [27]), (25, .iconst (-1), 1, []), (26, .ireturn, 1, []), (27, .aload_n 0, 1, []), (28, .getfield 39, 3, [10, 5, 2080]), (31, .aload_n 0, 1, []), (32, .getfield 10, 3, [10, 0, 2075]), (35, .getfield 103, 3, [0, 0, 1153]), (38, .invokevirtual 219, 3, [55, 3200, 3043, 1003, 1, 3041, 3042]), (41, .iconst 0, 1, []), (42, .istore 4, 2, []), (44, .iload 4, 2, []), (46, .iload_n 3, 1, []), (47, .if_icmp .ge 28, 3, [75]), (50, .aload_n 0, 1, []), (51, .getfield 39, 3, [10, 5, 2080]), (54, .invokevirtual 213, 3, [62, 3182, 3185, 1003, 0, 3183, 3184]), (57, .ifCond .eq 18, 3, [75]), (60, .aload_n 0, 1, []), (61, .getfield 39, 3, [10, 5, 2080]), (64, .iload_n 1, 1, []), (65, .iload_n 2, 1, []), (66, .invokevirtual 216, 3, [63, 3186, 3189, 1003, 2, 3187, 3188]), (69, .iinc 4 1, 3, []), (72, .goto (-28), 3, [44]), (75, .aload_n 0, 1, []), (76, .getfield 39, 3, [10, 5, 2080]), (79, .getfield 118, 3, [8, 4, 1061]), (82, .ireturn, 1, [])])
def zm_97 : zM := (yX10_lasts, cX10_lasts, 4, (some .int), 3, 68, [(0, .aload_n 0, 1, []), (1, .getfield 10, 3, [10, 0, 2075]), (4, .getfield 103, 3, [0, 0, 1153]), (7, .iload_n 1, 1, []), (8, .iload_n 2, 1, []), (9, .invokevirtual 152, 3, [57, 3082, 3085, 1003, 2, 3083, 3084]), (12, .ifCond .ne 5, 3, [17]), (15, .iconst (-1), 1, []), (16, .ireturn, 1, []), (17, .aload_n 0, 1, []), (18, .getfield 10, 3, [10, 0, 2075]), (21, .getfield 103, 3, [0, 0, 1153]), (24, .getfield 121, 3, [8, 5, 1064]), (27, .ifCond .eq 5, 3, [32]), (30, .iconst 0, 1, []), (31, .ireturn, 1, []), (32, .aload_n 0, 1, []), (33, .getfield 39, 3, [10, 5, 2080]), (36, .aload_n 0, 1, []), (37, .getfield 10, 3, [10, 0, 2075]), (40, .getfield 103, 3, [0, 0, 1153]), (43, .invokevirtual 219, 3, [55, 3200, 3043, 1003, 1, 3041, 3042]), (46, .iconst 0, 1, []), (47, .istore_n 3, 1, []), (48, .iload_n 3, 1, []), (49, .bipush 100, 2, []), (51, .if_icmp .ge 30, 3, [81]), (54, .aload_n 0, 1, []), (55, .getfield 39, 3, [10, 5, 2080]), (58, .iload_n 1, 1, []), (59, .iload_n 2, 1, []), (60, .invokevirtual 210, 3, [61, 3172, 3175, 1003, 2, 3173, 3174]), (63, .ifCond .le 18, 3, [81]), (66, .aload_n 0, 1, []), (67, .getfield 39, 3, [10, 5, 2080]), (70, .iload_n 1, 1, []), (71, .iload_n 2, 1, []), (72, .invokevirtual 216, 3, [63, 3186, 3189, 1003, 2, 3187, 3188]), (75, .iinc 3 1, 3, []), (78, .goto (-30), 3, [48]), (81, .iload_n 3, 1, []), (82, .ireturn, 1, [])])
def zm_98 : zM := (yX10_three, cX10_three, 4, (some .int), 2, 49, [(0, .aload_n 0, 1, []), (1, .getfield 10, 3, [10, 0, 2075]), (4, .getfield 103, 3, [0, 0, 1153]), (7, .iload_n 1, 1, []), (8, .iload_n 2, 1, []), (9, .invokevirtual 152, 3, [57, 3082, 3085, 1003, 2, 3083, 3084]), (12, .ifCond .eq 33, 3, [45]), (15, .aload_n 0, 1, []), (16, .getfield 10, 3, [10, 0, 2075]), (19, .getfield 103, 3, [0, 0, 1153]), (22, .iload_n 2, 1, []), (23, .iload_n 3, 1, []), (24, .invokevirtual 152, 3, [57, 3082, 3085, 1003, 2, 3083, 3084]), (27, .ifCond .eq 18, 3, [45]), (30, .aload_n 0, 1, []), (31, .getfield 10, 3, [10, 0, 2075]), (34, .getfield 103, 3, [0, 0, 1153]), (37, .iload_n 1, 1, []), (38, .iload_n 3, 1, []), (39, .invokevirtual 152, 3, [57, 3082, 3085, 1003, 2, 3083, 3084]), (42, .ifCond .ne 5, 3, [47]), (45, .iconst (-1), 1, []), (46, .ireturn, 1, []), (47, .aload_n 0, 1, []), (48, .iload_n 1, 1, []), (49, .iload_n 2, 1, []), (50, .iload_n 3, 1, []), (51, .invokevirtual 230, 3, [99, 3223, 3226, 1001, 3, 3225, 14]), (54, .aload_n 0, 1, []), (55, .iload_n 1, 1, []), (56, .iload_n 3, 1, []), (57, .iload_n 2, 1, []), (58, .invokevirtual 230, 3, [99, 3223, 3226, 1001, 3, 3225, 14]), (61, .invokestatic 188, 3, [1000, 3131, 2230, 1017, 2231]), (64, .ireturn, 1, [])])
def zm_99 : zM := (yX10_leastRound, cX10_leastRound, 7, (some .int), 1, 23, [(0, .aload_n 0, 1, []), (1, .getfield 10, 3, [10, 0, 2075]), (4, .getfield 103, 3, [0, 0, 1153]), (7, .iload_n 1, 1, []), (8, .iload_n 2, 1, []), (9, .invokevirtual 160, 3, [60, 3091, 3094, 1003, 2, 3092, 3093]), (12, .istore 4, 2, []), (14, .aload_n 0, 1, []), (15, .getfield 10, 3, [10, 0, 2075]), (18, .getfield 103, 3, [0, 0, 1153]), (21, .iload_n 2, 1, []), (22, .iload_n 3, 1, []), (23, .invokevirtual 160, 3, [60, 3091, 3094, 1003, 2, 3092, 3093]), (26, .istore 5, 2, []), (28, .aload_n 0, 1, []), (29, .getfield 10, 3, [10, 0, 2075]), (32, .getfield 103, 3, [0, 0, 1153]), (35, .iload_n 3, 1, []), (36, .iload_n 1, 1, []), (37, .invokevirtual 160, 3, [60, 3091, 3094, 1003, 2, 3092, 3093]), (40, .istore 6, 2, []), (42, .iload 4, 2, []), (44, .iload 5, 2, []), (46, .iload 6, 2, []), (48, .invokestatic 234, 3, [1001, 3227, 3029, 1017, 3030]), (51, .invokestatic 234, 3, [1001, 3227, 3029, 1017, 3030]), (54, .ireturn, 1, [])])
def zm_100 : zM := (yX10_best, cX10_best, 3, (some .int), 6, 139, [(0, .iload_n 1, 1, []), (1, .iconst 0, 1, []), (2, .iconst 4, 1, []), (3, .invokestatic 70, 3, [129, 2113, 2115, 1001, 3, 2114]), (6, .ifCond .eq 19, 3, [25]), (9, .iload_n 2, 1, []), (10, .iconst 0, 1, []), (11, .iconst 1, 1, []), (12, .invokestatic 70, 3, [129, 2113, 2115, 1001, 3, 2114]), (15, .ifCond .ne 12, 3, [27]), (18, .iload_n 2, 1, []), (19, .invokestatic 237, 3, [102, 3232, 3234, 1001, 1, 3233]), (22, .ifCond .ne 5, 3, [27]), (25, .iconst (-1), 1, []), (26, .ireturn, 1, []), (27, .aload_n 0, 1, []), (28, .getfield 46, 3, [10, 6, 2081]), (31, .aload_n 0, 1, []), (32, .getfield 10, 3, [10, 0, 2075]), (35, .getfield 103, 3, [0, 0, 1153]), (38, .iload_n 1, 1, []), (39, .invokevirtual 240, 3, [27, 3235, 3238, 1009, 2, 3236, 3237]), (42, .iload_n 2, 1, []), (43, .ifCond .ne 11, 3, [54]), (46, .aload_n 0, 1, []), (47, .getfield 46, 3, [10, 6, 2081]), (50, .getfield 244, 3, [4, 0, 2005]), (53, .ireturn, 1, []), (54, .iload_n 2, 1, []), (55, .iconst 1, 1, []), (56, .if_icmp .ne 13, 3, [69]), (59, .aload_n 0, 1, []), (60, .getfield 46, 3, [10, 6, 2081]), (63, .getfield 247, 3, [4, 1, 2007]), (66, .goto 14, 3, [80]), (69, .aload_n 0, 1, []), (70, .getfield 46, 3, [10, 6, 2081]), (73, .iload_n 2, 1, []), (74, .bipush 10, 2, []), (76, .isub, 1, []), (77, .invokevirtual 250, 3, [29, 4027, 4030, 1009, 1, 4028, 4029]), (80, .ireturn, 1, [])])
def zm_101 : zM := (yX10_few, cX10_few, 2, (some .int), 6, 138, [(0, .iload_n 1, 1, []), (1, .ifCond .eq 12, 3, [13]), (4, .iload_n 1, 1, []), (5, .invokestatic 237, 3, [102, 3232, 3234, 1001, 1, 3233]), (8, .ifCond .ne 5, 3, [13]), (11, .iconst (-1), 1, []), (12, .ireturn, 1, []), (13, .aload_n 0, 1, []), (14, .getfield 46, 3, [10, 6, 2081]), (17, .aload_n 0, 1, []), (18, .getfield 10, 3, [10, 0, 2075]), (21, .getfield 103, 3, [0, 0, 1153]), (24, .invokevirtual 253, 3, [28, 4035, 4038, 1009, 1, 4036, 4037]), (27, .ifCond .ne 6, 3, [33]), (30, .bipush (-4), 2, []), (32, .ireturn, 1, []), (33, .iload_n 1, 1, []), (34, .ifCond .ne 13, 3, [47]), (37, .aload_n 0, 1, []), (38, .getfield 46, 3, [10, 6, 2081]), (41, .getfield 257, 3, [4, 2, 2009]), (44, .goto 14, 3, [58]), (47, .aload_n 0, 1, []), (48, .getfield 46, 3, [10, 6, 2081]), (51, .iload_n 1, 1, []), (52, .bipush 10, 2, []), (54, .isub, 1, []), (55, .invokevirtual 250, 3, [29, 4027, 4030, 1009, 1, 4028, 4029]), (58, .ireturn, 1, [])])
def zm_102 : zM := (yX10_asksPlaceInRow, cX10_asksPlaceInRow, 1, (some .boolean), 1, 22, [(0, .iload_n 0, 1, []), (1, .bipush 10, 2, []), (3, .bipush 13, 2, []), (5, .invokestatic 70, 3, [129, 2113, 2115, 1001, 3, 2114]), (8, .ireturn, 1, [])])
def zm_103 : zM := (yX10_slips, cX10_slips, 3, (some .int), 6, 136, [(0, .iload_n 1, 1, []), (1, .iconst 0, 1, []), (2, .iconst 1, 1, []), (3, .invokestatic 70, 3, [129, 2113, 2115, 1001, 3, 2114]), (6, .ifCond .ne 5, 3, [11]), (9, .iconst (-1), 1, []), (10, .ireturn, 1, []), (11, .aload_n 0, 1, []), (12, .invokevirtual 260, 3, [104, 4043, 4046, 1001, 0, 4045, 21]), (15, .istore_n 2, 1, []), (16, .iload_n 2, 1, []), (17, .ifCond .ge 6, 3, [23]), (20, .bipush (-4), 2, []), (22, .ireturn, 1, []), (23, .iload_n 1, 1, []), (24, .ifCond .ne 10, 3, [34]), (27, .iload_n 2, 1, []), (28, .invokestatic 263, 3, [230, 4047, 4049, 1019, 1, 4048]), (31, .goto 4, 3, [35]), (34, .iload_n 2, 1, []), (35, .ireturn, 1, [])])
def zm_104 : zM := (yX10_fewestSlips, cX10_fewestSlips, 5, (some .int), 5, 112, [(0, .bipush (-4), 2, []), (2, .istore_n 1, 1, []), (3, .bipush 7, 2, []), (5, .istore_n 2, 1, []), (6, .iconst 0, 1, []), (7, .istore_n 3, 1, []), (8, .iload_n 3, 1, []), (9, .iconst 1, 1, []), (10, .aload_n 0, 1, []), (11, .getfield 10, 3, [10, 0, 2075]), (14, .getfield 125, 3, [0, 1, 1155]), (17, .getfield 129, 3, [7, 0, 1096]), (20, .ishl, 1, []), (21, .if_icmp .ge 59, 3, [80]), (24, .iload_n 3, 1, []), (25, .aload_n 0, 1, []), (26, .getfield 10, 3, [10, 0, 2075]), (29, .getfield 125, 3, [0, 1, 1155]), (32, .getfield 134, 3, [7, 1, 1099]), (35, .iand, 1, []), (36, .ifCond .ne 7, 3, [43]), (39, .iconst 1, 1, []), (40, .goto 4, 3, [44]), (43, .iconst 0, 1, []), (44, .istore 4, 2, []), (46, .iload 4, 2, []), (48, .ifCond .eq 26, 3, [74]), (51, .iload_n 3, 1, []), (52, .invokestatic 263, 3, [230, 4047, 4049, 1019, 1, 4048]), (55, .iload_n 2, 1, []), (56, .if_icmp .ge 18, 3, [74]), (59, .aload_n 0, 1, []), (60, .iload_n 3, 1, []), (61, .invokevirtual 268, 3, [105, 4053, 4056, 1001, 1, 4055, 22]), (64, .ifCond .eq 10, 3, [74]), (67, .iload_n 3, 1, []), (68, .istore_n 1, 1, []), (69, .iload_n 3, 1, []), (70, .invokestatic 263, 3, [230, 4047, 4049, 1019, 1, 4048]), (73, .istore_n 2, 1, []), (74, .iinc 3 1, 3, []), (77, .goto (-69), 3, [8]), (80, .iload_n 1, 1, []), (81, .ireturn, 1, [])])
def ze_105_0 : List zE := [(0, .aload_n 0, 1, []), (1, .getfield 39, 3, [10, 5, 2080]), (4, .aload_n 0, 1, []), (5, .getfield 10, 3, [10, 0, 2075]), (8, .getfield 103, 3, [0, 0, 1153]), (11, .invokevirtual 219, 3, [55, 3200, 3043, 1003, 1, 3041, 3042]), (14, .iconst 0, 1, []), (15, .istore_n 2, 1, []), (16, .iload_n 2, 1, []), (17, .aload_n 0, 1, []), (18, .getfield 10, 3, [10, 0, 2075]), (21, .getfield 125, 3, [0, 1, 1155]), (24, .getfield 129, 3, [7, 0, 1096]), (27, .if_icmp .ge 34, 3, [61]), (30, .iload_n 1, 1, []), (31, .iload_n 2, 1, []), (32, .ishr, 1, []), (33, .iconst 1, 1, []), (34, .iand, 1, []), (35, .iconst 1, 1, []), (36, .if_icmp .ne 19, 3, [55]), (39, .aload_n 0, 1, []), (40, .getfield 10, 3, [10, 0, 2075]), (43, .getfield 125, 3, [0, 1, 1155]), (46, .aload_n 0, 1, []), (47, .getfield 39, 3, [10, 5, 2080]), (50, .iload_n 2, 1, []), (51, .invokevirtual 184, 3, [53, 3120, 3123, 1004, 2, 3121, 3122]), (54, .pop, 1, []), (55, .iinc 2 1, 3, []), (58, .goto (-42), 3, [16]), (61, .aload_n 0, 1, []), (62, .getfield 10, 3, [10, 0, 2075]), (65, .getfield 137, 3, [0, 2, 1158]), (68, .aload_n 0, 1, []), (69, .getfield 39, 3, [10, 5, 2080]), (72, .invokevirtual 222, 3, [12, 3201, 3204, 1005, 1, 3202, 3203]), (75, .pop, 1, []), (76, .aload_n 0, 1, []), (77, .getfield 39, 3, [10, 5, 2080])]
def ze_105_1 : List zE := [(80, .getfield 118, 3, [8, 4, 1061]), (83, .aload_n 0, 1, []), (84, .getfield 39, 3, [10, 5, 2080]), (87, .getfield 109, 3, [8, 1, 1049]), (90, .if_icmp .lt 7, 3, [97]), (93, .iconst 1, 1, []), (94, .goto 4, 3, [98]), (97, .iconst 0, 1, []), (98, .ireturn, 1, [])]
def zm_105 : zM := (yX10_sufficeForNeed, cX10_sufficeForNeed, 3, (some .boolean), 4, 90, (ze_105_0 ++ (ze_105_1)))
def zm_106 : zM := (yX10_mate, cX10_mate, 5, (some .int), 2, 45, [(0, .aload_n 0, 1, []), (1, .getfield 10, 3, [10, 0, 2075]), (4, .getfield 103, 3, [0, 0, 1153]), (7, .iload_n 1, 1, []), (8, .invokevirtual 144, 3, [56, 3074, 3077, 1003, 1, 3075, 3076]), (11, .ifCond .ne 5, 3, [16]), (14, .iconst (-1), 1, []), (15, .ireturn, 1, []), (16, .bipush (-4), 2, []), (18, .istore_n 2, 1, []), (19, .iconst (-1), 1, []), (20, .istore_n 3, 1, []), (21, .iconst 0, 1, []), (22, .istore 4, 2, []), (24, .iload 4, 2, []), (26, .aload_n 0, 1, []), (27, .getfield 10, 3, [10, 0, 2075]), (30, .getfield 103, 3, [0, 0, 1153]), (33, .getfield 106, 3, [8, 0, 1045]), (36, .if_icmp .ge 49, 3, [85]), (39, .iload 4, 2, []), (41, .iload_n 1, 1, []), (42, .if_icmp .eq 37, 3, [79]), (45, .aload_n 0, 1, []), (46, .getfield 10, 3, [10, 0, 2075]), (49, .getfield 103, 3, [0, 0, 1153]), (52, .iload_n 1, 1, []), (53, .iload 4, 2, []), (55, .invokevirtual 210, 3, [61, 3172, 3175, 1003, 2, 3173, 3174]), (58, .iload_n 3, 1, []), (59, .if_icmp .le 20, 3, [79]), (62, .iload 4, 2, []), (64, .istore_n 2, 1, []), (65, .aload_n 0, 1, []), (66, .getfield 10, 3, [10, 0, 2075]), (69, .getfield 103, 3, [0, 0, 1153]), (72, .iload_n 1, 1, []), (73, .iload 4, 2, []), (75, .invokevirtual 210, 3, [61, 3172, 3175, 1003, 2, 3173, 3174]), (78, .istore_n 3, 1, []), (79, .iinc 4 1, 3, []), (82, .goto (-58), 3, [24]), (85, .iload_n 2, 1, []), (86, .ireturn, 1, [])])
def zm_107 : zM := (yX10_match, cX10_match, 3, (some .int), 4, 91, [(0, .iload_n 1, 1, []), (1, .bipush 10, 2, []), (3, .isub, 1, []), (4, .istore_n 2, 1, []), (5, .iload_n 1, 1, []), (6, .ifCond .eq 25, 3, [31]), (9, .iload_n 1, 1, []), (10, .bipush 10, 2, []), (12, .if_icmp .lt 17, 3, [29]), (15, .aload_n 0, 1, []), (16, .getfield 10, 3, [10, 0, 2075]), (19, .getfield 103, 3, [0, 0, 1153]), (22, .iload_n 2, 1, []), (23, .invokevirtual 144, 3, [56, 3074, 3077, 1003, 1, 3075, 3076]), (26, .ifCond .ne 5, 3, [31]), (29, .iconst (-1), 1, []), (30, .ireturn, 1, []), (31, .aload_n 0, 1, []), (32, .getfield 53, 3, [10, 7, 2082]), (35, .aload_n 0, 1, []), (36, .getfield 10, 3, [10, 0, 2075]), (39, .getfield 103, 3, [0, 0, 1153]), (42, .invokevirtual 271, 3, [4, 4065, 4068, 1010, 1, 4066, 4067]), (45, .iload_n 1, 1, []), (46, .ifCond .ne 13, 3, [59]), (49, .aload_n 0, 1, []), (50, .getfield 53, 3, [10, 7, 2082]), (53, .getfield 274, 3, [1, 0, 2042]), (56, .goto 12, 3, [68]), (59, .aload_n 0, 1, []), (60, .getfield 53, 3, [10, 7, 2082]), (63, .getfield 277, 3, [1, 1, 2044]), (66, .iload_n 2, 1, []), (67, .iaload, 1, []), (68, .ireturn, 1, [])])
def zm_108 : zM := (yX10_see, cX10_see, 3, (some .int), 1, 22, [(0, .iload_n 1, 1, []), (1, .iconst 0, 1, []), (2, .bipush 9, 2, []), (4, .invokestatic 70, 3, [129, 2113, 2115, 1001, 3, 2114]), (7, .ifCond .eq 13, 3, [20]), (10, .iload_n 2, 1, []), (11, .iconst 0, 1, []), (12, .bipush 18, 2, []), (14, .invokestatic 70, 3, [129, 2113, 2115, 1001, 3, 2114]), (17, .ifCond .ne 5, 3, [22]), (20, .iconst (-1), 1, []), (21, .ireturn, 1, []), (22, .aload_n 0, 1, []), (23, .getfield 10, 3, [10, 0, 2075]), (26, .getfield 280, 3, [0, 3, 1161]), (29, .invokevirtual 284, 3, [38, 4087, 4090, 1006, 0, 4088, 4089]), (32, .ifCond .eq 6, 3, [38]), (35, .bipush (-3), 2, []), (37, .ireturn, 1, []), (38, .aload_n 0, 1, []), (39, .getfield 10, 3, [10, 0, 2075]), (42, .getfield 280, 3, [0, 3, 1161]), (45, .iload_n 1, 1, []), (46, .iload_n 2, 1, []), (47, .invokevirtual 287, 3, [39, 4091, 4094, 1006, 2, 4092, 4093]), (50, .aload_n 0, 1, []), (51, .getfield 10, 3, [10, 0, 2075]), (54, .getfield 280, 3, [0, 3, 1161]), (57, .getfield 288, 3, [5, 0, 1141]), (60, .ireturn, 1, [])])
def zm_109 : zM := (yX10_forget, cX10_forget, 3, (some .int), 1, 22, [(0, .iload_n 1, 1, []), (1, .iconst 0, 1, []), (2, .aload_n 0, 1, []), (3, .getfield 10, 3, [10, 0, 2075]), (6, .getfield 280, 3, [0, 3, 1161]), (9, .getfield 288, 3, [5, 0, 1141]), (12, .invokestatic 70, 3, [129, 2113, 2115, 1001, 3, 2114]), (15, .ifCond .ne 5, 3, [20]), (18, .iconst (-1), 1, []), (19, .ireturn, 1, []), (20, .aload_n 0, 1, []), (21, .getfield 10, 3, [10, 0, 2075]), (24, .getfield 280, 3, [0, 3, 1161]), (27, .getfield 288, 3, [5, 0, 1141]), (30, .istore_n 2, 1, []), (31, .aload_n 0, 1, []), (32, .getfield 10, 3, [10, 0, 2075]), (35, .getfield 280, 3, [0, 3, 1161]), (38, .iload_n 1, 1, []), (39, .putfield 288, 3, [5, 0, 1141]), (42, .iload_n 2, 1, []), (43, .ireturn, 1, [])])
def ze_110_0 : List zE := [(0, .aload_n 0, 1, []), (1, .getfield 10, 3, [10, 0, 2075]), (4, .getfield 103, 3, [0, 0, 1153]), (7, .iload_n 1, 1, []), (8, .iload_n 2, 1, []), (9, .invokevirtual 152, 3, [57, 3082, 3085, 1003, 2, 3083, 3084]), (12, .ifCond .eq 12, 3, [24]), (15, .iload_n 3, 1, []), (16, .iconst 0, 1, []), (17, .iconst 2, 1, []), (18, .invokestatic 70, 3, [129, 2113, 2115, 1001, 3, 2114]), (21, .ifCond .ne 5, 3, [26]), (24, .iconst (-1), 1, []), (25, .ireturn, 1, []), (26, .iconst 0, 1, []), (27, .istore 4, 2, []), (29, .bipush (-4), 2, []), (31, .istore 5, 2, []), (33, .bipush (-4), 2, []), (35, .istore 6, 2, []), (37, .iconst 0, 1, []), (38, .istore 7, 2, []), (40, .iload 7, 2, []), (42, .bipush 100, 2, []), (44, .if_icmp .ge 41, 3, [85]), (47, .aload_n 0, 1, []), (48, .iload_n 1, 1, []), (49, .iload_n 2, 1, []), (50, .iload 7, 2, []), (52, .invokevirtual 289, 3, [111, 4103, 4106, 1001, 3, 4105, 26]), (55, .ifCond .eq 24, 3, [79]), (58, .iload 4, 2, []), (60, .ifCond .ne 8, 3, [68]), (63, .iload 7, 2, []), (65, .goto 5, 3, [70]), (68, .iload 5, 2, []), (70, .istore 5, 2, []), (72, .iload 7, 2, []), (74, .istore 6, 2, []), (76, .iinc 4 1, 3, [])]
def ze_110_1 : List zE := [(79, .iinc 7 1, 3, []), (82, .goto (-42), 3, [40]), (85, .iload_n 3, 1, []), (86, .ifCond .ne 6, 3, [92]), (89, .iload 4, 2, []), (91, .ireturn, 1, []), (92, .iload_n 3, 1, []), (93, .iconst 1, 1, []), (94, .if_icmp .ne 8, 3, [102]), (97, .iload 5, 2, []), (99, .goto 5, 3, [104]), (102, .iload 6, 2, []), (104, .ireturn, 1, [])]
def zm_110 : zM := (yX10_fits, cX10_fits, 8, (some .int), 4, 92, (ze_110_0 ++ (ze_110_1)))
def ze_111_0 : List zE := [(0, .aload_n 0, 1, []), (1, .getfield 39, 3, [10, 5, 2080]), (4, .aload_n 0, 1, []), (5, .getfield 10, 3, [10, 0, 2075]), (8, .getfield 103, 3, [0, 0, 1153]), (11, .invokevirtual 219, 3, [55, 3200, 3043, 1003, 1, 3041, 3042]), (14, .aload_n 0, 1, []), (15, .getfield 39, 3, [10, 5, 2080]), (18, .iload_n 1, 1, []), (19, .iload_n 2, 1, []), (20, .iload_n 3, 1, []), (21, .bipush 10, 2, []), (23, .idiv, 1, []), (24, .invokevirtual 180, 3, [59, 3115, 2235, 1003, 3, 2233, 2234]), (27, .aload_n 0, 1, []), (28, .getfield 39, 3, [10, 5, 2080]), (31, .iload_n 2, 1, []), (32, .iload_n 1, 1, []), (33, .iload_n 3, 1, []), (34, .bipush 10, 2, []), (36, .irem, 1, []), (37, .invokevirtual 180, 3, [59, 3115, 2235, 1003, 3, 2233, 2234]), (40, .iconst 0, 1, []), (41, .istore 4, 2, []), (43, .iload 4, 2, []), (45, .bipush 9, 2, []), (47, .if_icmp .gt 54, 3, [101]), (50, .aload_n 0, 1, []), (51, .getfield 10, 3, [10, 0, 2075]), (54, .getfield 280, 3, [0, 3, 1161]), (57, .iload 4, 2, []), (59, .aload_n 0, 1, []), (60, .getfield 39, 3, [10, 5, 2080]), (63, .iload_n 1, 1, []), (64, .iload_n 2, 1, []), (65, .invokevirtual 210, 3, [61, 3172, 3175, 1003, 2, 3173, 3174]), (68, .invokevirtual 292, 3, [40, 4107, 4110, 1006, 2, 4108, 4109]), (71, .ifCond .ne 5, 3, [76]), (74, .iconst 0, 1, []), (75, .ireturn, 1, [])]
def ze_111_1 : List zE := [(76, .aload_n 0, 1, []), (77, .getfield 39, 3, [10, 5, 2080]), (80, .getfield 121, 3, [8, 5, 1064]), (83, .ifCond .ne 12, 3, [95]), (86, .aload_n 0, 1, []), (87, .getfield 39, 3, [10, 5, 2080]), (90, .iload_n 1, 1, []), (91, .iload_n 2, 1, []), (92, .invokevirtual 216, 3, [63, 3186, 3189, 1003, 2, 3187, 3188]), (95, .iinc 4 1, 3, []), (98, .goto (-55), 3, [43]), (101, .iconst 1, 1, []), (102, .ireturn, 1, [])]
def zm_111 : zM := (yX10_wouldBeAsSeen, cX10_wouldBeAsSeen, 5, (some .boolean), 3, 68, (ze_111_0 ++ (ze_111_1)))
def ze_112_0 : List zE := [(0, .iload_n 1, 1, []), (1, .iconst 0, 1, []), (2, .sipush 999, 3, []), (5, .invokestatic 70, 3, [129, 2113, 2115, 1001, 3, 2114]), (8, .ifCond .ne 5, 3, [13]), (11, .iconst (-1), 1, []), (12, .ireturn, 1, []), (13, .iconst 0, 1, []), (14, .istore_n 2, 1, []), (15, .iconst 0, 1, []), (16, .istore_n 3, 1, []), (17, .iload_n 3, 1, []), (18, .aload_n 0, 1, []), (19, .getfield 10, 3, [10, 0, 2075]), (22, .getfield 103, 3, [0, 0, 1153]), (25, .getfield 106, 3, [8, 0, 1045]), (28, .if_icmp .ge 64, 3, [92]), (31, .aload_n 0, 1, []), (32, .getfield 39, 3, [10, 5, 2080]), (35, .aload_n 0, 1, []), (36, .getfield 10, 3, [10, 0, 2075]), (39, .getfield 103, 3, [0, 0, 1153]), (42, .invokevirtual 219, 3, [55, 3200, 3043, 1003, 1, 3041, 3042]), (45, .aload_n 0, 1, []), (46, .getfield 39, 3, [10, 5, 2080]), (49, .iload_n 3, 1, []), (50, .invokevirtual 193, 3, [66, 3136, 3139, 1003, 1, 3137, 3138]), (53, .pop, 1, []), (54, .aload_n 0, 1, []), (55, .getfield 10, 3, [10, 0, 2075]), (58, .getfield 137, 3, [0, 2, 1158]), (61, .aload_n 0, 1, []), (62, .getfield 39, 3, [10, 5, 2080]), (65, .invokevirtual 222, 3, [12, 3201, 3204, 1005, 1, 3202, 3203]), (68, .pop, 1, []), (69, .aload_n 0, 1, []), (70, .getfield 39, 3, [10, 5, 2080]), (73, .getfield 118, 3, [8, 4, 1061]), (76, .iload_n 1, 1, []), (77, .if_icmp .ne 9, 3, [86])]
def ze_112_1 : List zE := [(80, .iload_n 2, 1, []), (81, .iconst 1, 1, []), (82, .iload_n 3, 1, []), (83, .ishl, 1, []), (84, .ior, 1, []), (85, .istore_n 2, 1, []), (86, .iinc 3 1, 3, []), (89, .goto (-72), 3, [17]), (92, .iload_n 2, 1, []), (93, .ireturn, 1, [])]
def zm_112 : zM := (yX10_forgave, cX10_forgave, 4, (some .int), 4, 90, (ze_112_0 ++ (ze_112_1)))
def zm_113 : zM := (yX10_luck, cX10_luck, 5, (some .long), 4, 101, [(0, .aload_n 0, 1, []), (1, .iload_n 1, 1, []), (2, .iload_n 2, 1, []), (3, .iload_n 3, 1, []), (4, .iload 4, 2, []), (6, .invokevirtual 295, 3, [115, 4119, 4122, 1001, 4, 4121, 27]), (9, .ifCond .eq 16, 3, [25]), (12, .aload_n 0, 1, []), (13, .iload_n 1, 1, []), (14, .iload_n 2, 1, []), (15, .iload_n 3, 1, []), (16, .iload 4, 2, []), (18, .iconst 1, 1, []), (19, .invokevirtual 299, 3, [116, 4123, 4126, 1001, 5, 4125, 28]), (22, .goto 6, 3, [28]), (25, .ldc2_w 303, 3, [4135, 18446744073709551615]), (28, .lreturn, 1, [])])
def zm_114 : zM := (yX10_mean, cX10_mean, 5, (some .long), 4, 101, [(0, .aload_n 0, 1, []), (1, .iload_n 1, 1, []), (2, .iload_n 2, 1, []), (3, .iload_n 3, 1, []), (4, .iload 4, 2, []), (6, .invokevirtual 295, 3, [115, 4119, 4122, 1001, 4, 4121, 27]), (9, .ifCond .eq 16, 3, [25]), (12, .aload_n 0, 1, []), (13, .iload_n 1, 1, []), (14, .iload_n 2, 1, []), (15, .iload_n 3, 1, []), (16, .iload 4, 2, []), (18, .iconst 0, 1, []), (19, .invokevirtual 299, 3, [116, 4123, 4126, 1001, 5, 4125, 28]), (22, .goto 6, 3, [28]), (25, .ldc2_w 303, 3, [4135, 18446744073709551615]), (28, .lreturn, 1, [])])
def zm_115 : zM := (yX10_isLoveAsked, cX10_isLoveAsked, 5, (some .boolean), 2, 43, [(0, .iload_n 1, 1, []), (1, .iconst 0, 1, []), (2, .bipush 10, 2, []), (4, .invokestatic 70, 3, [129, 2113, 2115, 1001, 3, 2114]), (7, .ifCond .eq 32, 3, [39]), (10, .aload_n 0, 1, []), (11, .getfield 10, 3, [10, 0, 2075]), (14, .getfield 103, 3, [0, 0, 1153]), (17, .iload_n 2, 1, []), (18, .iload_n 3, 1, []), (19, .invokevirtual 152, 3, [57, 3082, 3085, 1003, 2, 3083, 3084]), (22, .ifCond .eq 17, 3, [39]), (25, .iload 4, 2, []), (27, .iconst 0, 1, []), (28, .iconst 1, 1, []), (29, .invokestatic 70, 3, [129, 2113, 2115, 1001, 3, 2114]), (32, .ifCond .eq 7, 3, [39]), (35, .iconst 1, 1, []), (36, .goto 4, 3, [40]), (39, .iconst 0, 1, []), (40, .ireturn, 1, [])])
def ze_116_0 : List zE := [(0, .aload_n 0, 1, []), (1, .getfield 39, 3, [10, 5, 2080]), (4, .aload_n 0, 1, []), (5, .getfield 10, 3, [10, 0, 2075]), (8, .getfield 103, 3, [0, 0, 1153]), (11, .invokevirtual 219, 3, [55, 3200, 3043, 1003, 1, 3041, 3042]), (14, .lconst 0, 1, []), (15, .lstore 6, 2, []), (17, .lconst 1, 1, []), (18, .lstore 8, 2, []), (20, .lconst 1, 1, []), (21, .lstore 10, 2, []), (23, .iconst 0, 1, []), (24, .istore 12, 2, []), (26, .iload 12, 2, []), (28, .bipush 12, 2, []), (30, .if_icmp .ge 68, 3, [98]), (33, .aload_n 0, 1, []), (34, .getfield 39, 3, [10, 5, 2080]), (37, .invokevirtual 213, 3, [62, 3182, 3185, 1003, 0, 3183, 3184]), (40, .ifCond .eq 58, 3, [98]), (43, .ldc2_w 305, 3, [4127, 10]), (46, .lload 6, 2, []), (48, .lmul, 1, []), (49, .lload 8, 2, []), (51, .iload_n 1, 1, []), (52, .i2l, 1, []), (53, .lmul, 1, []), (54, .aload_n 0, 1, []), (55, .iload 5, 2, []), (57, .invokevirtual 307, 3, [117, 4128, 4131, 1001, 1, 4130, 29]), (60, .i2l, 1, []), (61, .lmul, 1, []), (62, .ladd, 1, []), (63, .lstore 6, 2, []), (65, .lload 8, 2, []), (67, .bipush 10, 2, []), (69, .iload_n 1, 1, []), (70, .isub, 1, []), (71, .i2l, 1, [])]
def ze_116_1 : List zE := [(72, .lmul, 1, []), (73, .lstore 8, 2, []), (75, .lload 10, 2, []), (77, .ldc2_w 305, 3, [4127, 10]), (80, .lmul, 1, []), (81, .lstore 10, 2, []), (83, .aload_n 0, 1, []), (84, .getfield 39, 3, [10, 5, 2080]), (87, .iload_n 2, 1, []), (88, .iload_n 3, 1, []), (89, .invokevirtual 216, 3, [63, 3186, 3189, 1003, 2, 3187, 3188]), (92, .iinc 12 1, 3, []), (95, .goto (-69), 3, [26]), (98, .lload 6, 2, []), (100, .lload 8, 2, []), (102, .aload_n 0, 1, []), (103, .iload 5, 2, []), (105, .invokevirtual 307, 3, [117, 4128, 4131, 1001, 1, 4130, 29]), (108, .i2l, 1, []), (109, .lmul, 1, []), (110, .ladd, 1, []), (111, .lstore 6, 2, []), (113, .lload 10, 2, []), (115, .lload 6, 2, []), (117, .invokestatic 311, 3, [118, 4132, 4134, 1001, 2, 4133]), (120, .lstore 12, 2, []), (122, .lload 12, 2, []), (124, .lconst 1, 1, []), (125, .lcmp, 1, []), (126, .ifCond .ge 7, 3, [133]), (129, .ldc2_w 303, 3, [4135, 18446744073709551615]), (132, .lreturn, 1, []), (133, .iload 4, 2, []), (135, .ifCond .ne 11, 3, [146]), (138, .lload 6, 2, []), (140, .lload 12, 2, []), (142, .ldiv, 1, []), (143, .goto 8, 3, [151]), (146, .lload 10, 2, []), (148, .lload 12, 2, [])]
def ze_116_2 : List zE := [(150, .ldiv, 1, []), (151, .lreturn, 1, [])]
def zm_116 : zM := (yX10_byLove, cX10_byLove, 14, (some .long), 3, 68, (ze_116_0 ++ (ze_116_1 ++ (ze_116_2))))
def zm_117 : zM := (yX10_worthOfTrial, cX10_worthOfTrial, 2, (some .int), 0, 0, [(0, .iload_n 1, 1, []), (1, .ifCond .eq 26, 3, [27]), (4, .aload_n 0, 1, []), (5, .getfield 39, 3, [10, 5, 2080]), (8, .getfield 118, 3, [8, 4, 1061]), (11, .aload_n 0, 1, []), (12, .getfield 39, 3, [10, 5, 2080]), (15, .getfield 109, 3, [8, 1, 1049]), (18, .if_icmp .lt 7, 3, [25]), (21, .iconst 1, 1, []), (22, .goto 4, 3, [26]), (25, .iconst 0, 1, []), (26, .ireturn, 1, []), (27, .aload_n 0, 1, []), (28, .getfield 39, 3, [10, 5, 2080]), (31, .getfield 118, 3, [8, 4, 1061]), (34, .ireturn, 1, [])])
def zm_118 : zM := (yX10_commonDivisor, cX10_commonDivisor, 11, (some .long), 0, 0, [(0, .lload_n 0, 1, []), (1, .lstore 4, 2, []), (3, .lload_n 2, 1, []), (4, .lstore 6, 2, []), (6, .iconst 0, 1, []), (7, .istore 8, 2, []), (9, .iload 8, 2, []), (11, .sipush 1000, 3, []), (14, .if_icmp .ge 31, 3, [45]), (17, .lload 6, 2, []), (19, .lconst 0, 1, []), (20, .lcmp, 1, []), (21, .ifCond .eq 24, 3, [45]), (24, .lload 4, 2, []), (26, .lload 6, 2, []), (28, .lrem, 1, []), (29, .lstore 9, 2, []), (31, .lload 6, 2, []), (33, .lstore 4, 2, []), (35, .lload 9, 2, []), (37, .lstore 6, 2, []), (39, .iinc 8 1, 3, []), (42, .goto (-33), 3, [9]), (45, .lload 4, 2, []), (47, .lreturn, 1, [])])
def ze_119_0 : List zE := [(0, .iload_n 2, 1, []), (1, .iconst 1, 1, []), (2, .bipush 60, 2, []), (4, .invokestatic 70, 3, [129, 2113, 2115, 1001, 3, 2114]), (7, .ifCond .eq 12, 3, [19]), (10, .iload_n 3, 1, []), (11, .iconst 0, 1, []), (12, .iconst 1, 1, []), (13, .invokestatic 70, 3, [129, 2113, 2115, 1001, 3, 2114]), (16, .ifCond .ne 5, 3, [21]), (19, .iconst (-1), 1, []), (20, .ireturn, 1, []), (21, .aload_n 0, 1, []), (22, .getfield 10, 3, [10, 0, 2075]), (25, .getfield 103, 3, [0, 0, 1153]), (28, .getfield 106, 3, [8, 0, 1045]), (31, .istore 4, 2, []), (33, .iload 4, 2, []), (35, .iconst 2, 1, []), (36, .if_icmp .ge 6, 3, [42]), (39, .bipush (-2), 2, []), (41, .ireturn, 1, []), (42, .aload_n 0, 1, []), (43, .getfield 39, 3, [10, 5, 2080]), (46, .aload_n 0, 1, []), (47, .getfield 10, 3, [10, 0, 2075]), (50, .getfield 103, 3, [0, 0, 1153]), (53, .invokevirtual 219, 3, [55, 3200, 3043, 1003, 1, 3041, 3042]), (56, .iload_n 1, 1, []), (57, .istore 5, 2, []), (59, .iconst 0, 1, []), (60, .istore 6, 2, []), (62, .iload 6, 2, []), (64, .iload_n 2, 1, []), (65, .if_icmp .ge 81, 3, [146]), (68, .aload_n 0, 1, []), (69, .getfield 39, 3, [10, 5, 2080]), (72, .getfield 121, 3, [8, 5, 1064]), (75, .ifCond .ne 71, 3, [146]), (78, .iload 5, 2, [])]
def ze_119_1 : List zE := [(80, .invokestatic 315, 3, [120, 4144, 4146, 1001, 1, 4145]), (83, .istore 5, 2, []), (85, .iload 5, 2, []), (87, .invokestatic 318, 3, [121, 4148, 4150, 1001, 1, 4149]), (90, .iload 4, 2, []), (92, .irem, 1, []), (93, .istore 7, 2, []), (95, .iload 5, 2, []), (97, .invokestatic 315, 3, [120, 4144, 4146, 1001, 1, 4145]), (100, .istore 5, 2, []), (102, .iload 5, 2, []), (104, .invokestatic 318, 3, [121, 4148, 4150, 1001, 1, 4149]), (107, .iload 4, 2, []), (109, .irem, 1, []), (110, .istore 8, 2, []), (112, .aload_n 0, 1, []), (113, .getfield 39, 3, [10, 5, 2080]), (116, .iload 7, 2, []), (118, .iload 8, 2, []), (120, .iload 7, 2, []), (122, .if_icmp .ne 13, 3, [135]), (125, .iload 7, 2, []), (127, .iconst 1, 1, []), (128, .iadd, 1, []), (129, .iload 4, 2, []), (131, .irem, 1, []), (132, .goto 5, 3, [137]), (135, .iload 8, 2, []), (137, .invokevirtual 216, 3, [63, 3186, 3189, 1003, 2, 3187, 3188]), (140, .iinc 6 1, 3, []), (143, .goto (-81), 3, [62]), (146, .iload_n 3, 1, []), (147, .ifCond .ne 13, 3, [160]), (150, .aload_n 0, 1, []), (151, .getfield 39, 3, [10, 5, 2080]), (154, .getfield 118, 3, [8, 4, 1061]), (157, .goto 10, 3, [167]), (160, .aload_n 0, 1, []), (161, .getfield 39, 3, [10, 5, 2080]), (164, .invokevirtual 226, 3, [67, 3207, 3210, 1003, 0, 3208, 3209])]
def ze_119_2 : List zE := [(167, .ireturn, 1, [])]
def zm_119 : zM := (yX10_drift, cX10_drift, 9, (some .int), 3, 68, (ze_119_0 ++ (ze_119_1 ++ (ze_119_2))))
def zm_120 : zM := (yX10_grow, cX10_grow, 1, (some .int), 0, 0, [(0, .iload_n 0, 1, []), (1, .ldc_w 321, 3, [4147, 1103515245]), (4, .imul, 1, []), (5, .sipush 12345, 3, []), (8, .iadd, 1, []), (9, .ireturn, 1, [])])
def zm_121 : zM := (yX10_bitsOf, cX10_bitsOf, 1, (some .int), 0, 0, [(0, .iload_n 0, 1, []), (1, .bipush 16, 2, []), (3, .iushr, 1, []), (4, .sipush 32767, 3, []), (7, .iand, 1, []), (8, .ireturn, 1, [])])
def zm_122 : zM := (yX10_keep, cX10_keep, 3, (some .int), 3, 68, [(0, .iload_n 1, 1, []), (1, .iconst 0, 1, []), (2, .iconst 1, 1, []), (3, .invokestatic 70, 3, [129, 2113, 2115, 1001, 3, 2114]), (6, .ifCond .ne 5, 3, [11]), (9, .iconst (-1), 1, []), (10, .ireturn, 1, []), (11, .aload_n 0, 1, []), (12, .getfield 20, 3, [10, 2, 2077]), (15, .iload_n 1, 1, []), (16, .ishr, 1, []), (17, .iconst 1, 1, []), (18, .iand, 1, []), (19, .istore_n 2, 1, []), (20, .aload_n 0, 1, []), (21, .getfield 16, 3, [10, 1, 2076]), (24, .iload_n 1, 1, []), (25, .aaload, 1, []), (26, .aload_n 0, 1, []), (27, .getfield 10, 3, [10, 0, 2075]), (30, .invokevirtual 96, 3, [1, 3036, 3039, 1002, 1, 3037, 3038]), (33, .aload_n 0, 1, []), (34, .dup, 1, []), (35, .getfield 20, 3, [10, 2, 2077]), (38, .iconst 1, 1, []), (39, .iload_n 1, 1, []), (40, .ishl, 1, []), (41, .ior, 1, []), (42, .putfield 20, 3, [10, 2, 2077]), (45, .iload_n 2, 1, []), (46, .ireturn, 1, [])])
def zm_123 : zM := (yX10_back, cX10_back, 2, (some .int), 3, 68, [(0, .iload_n 1, 1, []), (1, .iconst 0, 1, []), (2, .iconst 1, 1, []), (3, .invokestatic 70, 3, [129, 2113, 2115, 1001, 3, 2114]), (6, .ifCond .ne 5, 3, [11]), (9, .iconst (-1), 1, []), (10, .ireturn, 1, []), (11, .aload_n 0, 1, []), (12, .getfield 20, 3, [10, 2, 2077]), (15, .iload_n 1, 1, []), (16, .ishr, 1, []), (17, .iconst 1, 1, []), (18, .iand, 1, []), (19, .ifCond .ne 6, 3, [25]), (22, .bipush (-2), 2, []), (24, .ireturn, 1, []), (25, .aload_n 0, 1, []), (26, .getfield 10, 3, [10, 0, 2075]), (29, .aload_n 0, 1, []), (30, .getfield 16, 3, [10, 1, 2076]), (33, .iload_n 1, 1, []), (34, .aaload, 1, []), (35, .invokevirtual 96, 3, [1, 3036, 3039, 1002, 1, 3037, 3038]), (38, .aload_n 0, 1, []), (39, .getfield 10, 3, [10, 0, 2075]), (42, .getfield 103, 3, [0, 0, 1153]), (45, .getfield 118, 3, [8, 4, 1061]), (48, .ireturn, 1, [])])
def zm_124 : zM := (yX10_sheet, cX10_sheet, 4, (some .int), 1, 23, [(0, .iload_n 1, 1, []), (1, .iconst 0, 1, []), (2, .iconst 3, 1, []), (3, .invokestatic 70, 3, [129, 2113, 2115, 1001, 3, 2114]), (6, .ifCond .eq 18, 3, [24]), (9, .iload_n 2, 1, []), (10, .iconst 0, 1, []), (11, .iconst 2, 1, []), (12, .invokestatic 70, 3, [129, 2113, 2115, 1001, 3, 2114]), (15, .ifCond .eq 9, 3, [24]), (18, .iload_n 3, 1, []), (19, .bipush 40, 2, []), (21, .if_icmp .le 5, 3, [26]), (24, .iconst (-1), 1, []), (25, .ireturn, 1, []), (26, .iload_n 3, 1, []), (27, .ifCond .ge 6, 3, [33]), (30, .bipush (-14), 2, []), (32, .ireturn, 1, []), (33, .aload_n 0, 1, []), (34, .getfield 59, 3, [10, 8, 2083]), (37, .iload_n 1, 1, []), (38, .aaload, 1, []), (39, .iload_n 2, 1, []), (40, .iload_n 3, 1, []), (41, .invokevirtual 322, 3, [44, 4163, 4166, 1011, 2, 4164, 4165]), (44, .iconst 1, 1, []), (45, .ireturn, 1, [])])
def zm_125 : zM := (yX10_lay, cX10_lay, 4, (some .int), 1, 22, [(0, .iload_n 1, 1, []), (1, .iconst 0, 1, []), (2, .iconst 3, 1, []), (3, .invokestatic 70, 3, [129, 2113, 2115, 1001, 3, 2114]), (6, .ifCond .ne 5, 3, [11]), (9, .iconst (-1), 1, []), (10, .ireturn, 1, []), (11, .aload_n 0, 1, []), (12, .getfield 59, 3, [10, 8, 2083]), (15, .iload_n 1, 1, []), (16, .aaload, 1, []), (17, .invokevirtual 325, 3, [42, 4171, 4174, 1011, 0, 4172, 4173]), (20, .ifCond .eq 6, 3, [26]), (23, .bipush (-11), 2, []), (25, .ireturn, 1, []), (26, .aload_n 0, 1, []), (27, .getfield 59, 3, [10, 8, 2083]), (30, .iload_n 1, 1, []), (31, .aaload, 1, []), (32, .iload_n 2, 1, []), (33, .invokevirtual 328, 3, [43, 4175, 4178, 1011, 1, 4176, 4177]), (36, .ifCond .ne 6, 3, [42]), (39, .bipush (-12), 2, []), (41, .ireturn, 1, []), (42, .aload_n 0, 1, []), (43, .getfield 59, 3, [10, 8, 2083]), (46, .iload_n 1, 1, []), (47, .aaload, 1, []), (48, .iload_n 2, 1, []), (49, .iload_n 3, 1, []), (50, .invokevirtual 329, 3, [45, 4179, 4182, 1011, 2, 4180, 4181]), (53, .iconst 1, 1, []), (54, .ireturn, 1, [])])
def ze_126_0 : List zE := [(0, .iload_n 1, 1, []), (1, .iconst 0, 1, []), (2, .iconst 3, 1, []), (3, .invokestatic 70, 3, [129, 2113, 2115, 1001, 3, 2114]), (6, .ifCond .eq 23, 3, [29]), (9, .iload_n 2, 1, []), (10, .iconst 0, 1, []), (11, .iconst 2, 1, []), (12, .invokestatic 70, 3, [129, 2113, 2115, 1001, 3, 2114]), (15, .ifCond .eq 14, 3, [29]), (18, .iload 4, 2, []), (20, .iconst 0, 1, []), (21, .bipush 12, 2, []), (23, .invokestatic 70, 3, [129, 2113, 2115, 1001, 3, 2114]), (26, .ifCond .ne 5, 3, [31]), (29, .iconst (-1), 1, []), (30, .ireturn, 1, []), (31, .aload_n 0, 1, []), (32, .getfield 59, 3, [10, 8, 2083]), (35, .iload_n 1, 1, []), (36, .aaload, 1, []), (37, .astore 5, 2, []), (39, .iload 4, 2, []), (41, .ifCond .ne 7, 3, [48]), (44, .iconst 0, 1, []), (45, .goto 9, 3, [54]), (48, .aload 5, 2, []), (50, .iload_n 2, 1, []), (51, .invokevirtual 332, 3, [46, 4187, 4190, 1011, 1, 4188, 4189]), (54, .istore 6, 2, []), (56, .iconst 0, 1, []), (57, .istore 7, 2, []), (59, .aload_n 0, 1, []), (60, .getfield 39, 3, [10, 5, 2080]), (63, .aload_n 0, 1, []), (64, .getfield 10, 3, [10, 0, 2075]), (67, .getfield 103, 3, [0, 0, 1153]), (70, .invokevirtual 219, 3, [55, 3200, 3043, 1003, 1, 3041, 3042]), (73, .iconst 0, 1, []), (74, .istore 8, 2, [])]
def ze_126_1 : List zE := [(76, .iload 8, 2, []), (78, .iload 4, 2, []), (80, .if_icmp .ge 90, 3, [170]), (83, .iload 6, 2, []), (85, .ifCond .ne 85, 3, [170]), (88, .iload_n 3, 1, []), (89, .iconst 2, 1, []), (90, .iload 8, 2, []), (92, .imul, 1, []), (93, .iadd, 1, []), (94, .istore 9, 2, []), (96, .aload 5, 2, []), (98, .iload 9, 2, []), (100, .invokevirtual 328, 3, [43, 4175, 4178, 1011, 1, 4176, 4177]), (103, .ifCond .eq 15, 3, [118]), (106, .aload 5, 2, []), (108, .iload 9, 2, []), (110, .iconst 1, 1, []), (111, .iadd, 1, []), (112, .invokevirtual 328, 3, [43, 4175, 4178, 1011, 1, 4176, 4177]), (115, .ifCond .ne 9, 3, [124]), (118, .iconst 2, 1, []), (119, .istore 6, 2, []), (121, .goto 43, 3, [164]), (124, .aload_n 0, 1, []), (125, .getfield 39, 3, [10, 5, 2080]), (128, .aload 5, 2, []), (130, .getfield 335, 3, [6, 1, 2066]), (133, .iload 9, 2, []), (135, .iaload, 1, []), (136, .aload 5, 2, []), (138, .getfield 335, 3, [6, 1, 2066]), (141, .iload 9, 2, []), (143, .iconst 1, 1, []), (144, .iadd, 1, []), (145, .iaload, 1, []), (146, .invokevirtual 338, 3, [65, 4192, 4195, 1003, 2, 4193, 4194]), (149, .ifCond .eq 9, 3, [158]), (152, .iinc 7 1, 3, []), (155, .goto 9, 3, [164])]
def ze_126_2 : List zE := [(158, .bipush (-20), 2, []), (160, .iload 8, 2, []), (162, .isub, 1, []), (163, .ireturn, 1, []), (164, .iinc 8 1, 3, []), (167, .goto (-91), 3, [76]), (170, .aload_n 0, 1, []), (171, .getfield 10, 3, [10, 0, 2075]), (174, .getfield 103, 3, [0, 0, 1153]), (177, .aload_n 0, 1, []), (178, .getfield 39, 3, [10, 5, 2080]), (181, .invokevirtual 219, 3, [55, 3200, 3043, 1003, 1, 3041, 3042]), (184, .aload_n 0, 1, []), (185, .iload 6, 2, []), (187, .putfield 66, 3, [10, 10, 2085]), (190, .iload 7, 2, []), (192, .ireturn, 1, [])]
def zm_126 : zM := (yX10_read, cX10_read, 10, (some .int), 4, 91, (ze_126_0 ++ (ze_126_1 ++ (ze_126_2))))
def zm_127 : zM := (yX10_torn, cX10_torn, 1, (some .int), 0, 0, [(0, .aload_n 0, 1, []), (1, .getfield 66, 3, [10, 10, 2085]), (4, .ireturn, 1, [])])
def zm_128 : zM := (yX10_count, cX10_count, 2, (some .int), 1, 22, [(0, .iload_n 1, 1, []), (1, .tableswitch 100 0 4 #[35, 46, 57, 65, 73], 35, []), (36, .aload_n 0, 1, []), (37, .getfield 10, 3, [10, 0, 2075]), (40, .getfield 103, 3, [0, 0, 1153]), (43, .invokevirtual 226, 3, [67, 3207, 3210, 1003, 0, 3208, 3209]), (46, .ireturn, 1, []), (47, .aload_n 0, 1, []), (48, .getfield 10, 3, [10, 0, 2075]), (51, .getfield 280, 3, [0, 3, 1161]), (54, .getfield 288, 3, [5, 0, 1141]), (57, .ireturn, 1, []), (58, .aload_n 0, 1, []), (59, .getfield 20, 3, [10, 2, 2077]), (62, .invokestatic 263, 3, [230, 4047, 4049, 1019, 1, 4048]), (65, .ireturn, 1, []), (66, .aload_n 0, 1, []), (67, .getfield 35, 3, [10, 4, 2079]), (70, .getfield 74, 3, [9, 1, 1189]), (73, .ireturn, 1, []), (74, .aload_n 0, 1, []), (75, .getfield 59, 3, [10, 8, 2083]), (78, .iconst 0, 1, []), (79, .aaload, 1, []), (80, .invokevirtual 325, 3, [42, 4171, 4174, 1011, 0, 4172, 4173]), (83, .ifCond .eq 8, 3, [91]), (86, .bipush (-4), 2, []), (88, .goto 12, 3, [100]), (91, .aload_n 0, 1, []), (92, .getfield 59, 3, [10, 8, 2083]), (95, .iconst 0, 1, []), (96, .aaload, 1, []), (97, .getfield 341, 3, [6, 0, 2064]), (100, .ireturn, 1, []), (101, .iconst (-1), 1, []), (102, .ireturn, 1, [])])
def zm_129 : zM := (yX10_isWithin, cX10_isWithin, 3, (some .boolean), 0, 0, [(0, .iload_n 0, 1, []), (1, .iload_n 1, 1, []), (2, .if_icmp .lt 12, 3, [14]), (5, .iload_n 0, 1, []), (6, .iload_n 2, 1, []), (7, .if_icmp .gt 7, 3, [14]), (10, .iconst 1, 1, []), (11, .goto 4, 3, [15]), (14, .iconst 0, 1, []), (15, .ireturn, 1, [])])
def ze_130_0 : List zE := [(0, .aload_n 0, 1, []), (1, .invokespecial 1, 3, [1003, 4212, 1026, 1027]), (4, .aload_n 0, 1, []), (5, .sipush 174, 3, []), (8, .newarray .int, 2, [1087]), (10, .putfield 7, 3, [11, 0, 4221]), (13, .aload_n 0, 1, []), (14, .bipush 58, 2, []), (16, .newarray .int, 2, [1087]), (18, .putfield 13, 3, [11, 1, 4222]), (21, .aload_n 0, 1, []), (22, .iconst 2, 1, []), (23, .newarray .boolean, 2, [5090]), (25, .putfield 16, 3, [11, 2, 4223]), (28, .aload_n 0, 1, []), (29, .bipush 6, 2, []), (31, .newarray .int, 2, [1087]), (33, .putfield 20, 3, [11, 5, 4226]), (36, .aload_n 0, 1, []), (37, .bipush 6, 2, []), (39, .newarray .int, 2, [1087]), (41, .putfield 23, 3, [11, 6, 4227]), (44, .aload_n 0, 1, []), (45, .bipush 6, 2, []), (47, .newarray .int, 2, [1087]), (49, .putfield 26, 3, [11, 7, 4228]), (52, .aload_n 0, 1, []), (53, .bipush 58, 2, []), (55, .newarray .int, 2, [1087]), (57, .putfield 29, 3, [11, 8, 4229]), (60, .aload_n 0, 1, []), (61, .bipush 6, 2, []), (63, .newarray .int, 2, [1087]), (65, .putfield 32, 3, [11, 11, 4232]), (68, .aload_n 0, 1, []), (69, .bipush 6, 2, []), (71, .newarray .int, 2, [1087]), (73, .putfield 35, 3, [11, 12, 4233]), (76, .aload_n 0, 1, []), (77, .bipush 6, 2, [])]
def ze_130_1 : List zE := [(79, .newarray .int, 2, [1087]), (81, .putfield 38, 3, [11, 13, 4234]), (84, .aload_n 0, 1, []), (85, .sipush 160, 3, []), (88, .newarray .int, 2, [1087]), (90, .putfield 41, 3, [11, 17, 4238]), (93, .aload_n 0, 1, []), (94, .bipush 10, 2, []), (96, .newarray .int, 2, [1087]), (98, .putfield 44, 3, [11, 26, 5007]), (101, .aload_n 0, 1, []), (102, .iconst 5, 1, []), (103, .newarray .int, 2, [1087]), (105, .putfield 47, 3, [11, 27, 5008]), (108, .aload_n 0, 1, []), (109, .iconst 4, 1, []), (110, .newarray .int, 2, [1087]), (112, .putfield 50, 3, [11, 31, 5012]), (115, .aload_n 0, 1, []), (116, .iconst 4, 1, []), (117, .newarray .int, 2, [1087]), (119, .putfield 53, 3, [11, 32, 5013]), (122, .aload_n 0, 1, []), (123, .sipush 160, 3, []), (126, .newarray .int, 2, [1087]), (128, .putfield 56, 3, [11, 33, 5014]), (131, .aload_n 0, 1, []), (132, .bipush 58, 2, []), (134, .newarray .int, 2, [1087]), (136, .putfield 59, 3, [11, 35, 5016]), (139, .iconst 0, 1, []), (140, .istore_n 1, 1, []), (141, .iload_n 1, 1, []), (142, .iconst 4, 1, []), (143, .if_icmp .ge 17, 3, [160]), (146, .aload_n 0, 1, []), (147, .getfield 50, 3, [11, 31, 5012]), (150, .iload_n 1, 1, []), (151, .bipush (-4), 2, []), (153, .iastore, 1, [])]
def ze_130_2 : List zE := [(154, .iinc 1 1, 3, []), (157, .goto (-16), 3, [141]), (160, .aload_n 0, 1, []), (161, .invokevirtual 62, 3, [133, 4213, 4216, 1012, 0, 4215, 30]), (164, .aload_n 0, 1, []), (165, .invokevirtual 65, 3, [134, 4217, 4220, 1012, 0, 4219, 31]), (168, .return_, 1, [])]
def zm_130 : zM := (yX11_init, cX11_init, 2, none, 1, 21, (ze_130_0 ++ (ze_130_1 ++ (ze_130_2))))
def zm_131 : zM := (yX11_in, cX11_in, 6, (some .boolean), 0, 0, [(0, .lload_n 0, 1, []), (1, .lload_n 2, 1, []), (2, .lcmp, 1, []), (3, .ifCond .lt 14, 3, [17]), (6, .lload_n 0, 1, []), (7, .lload 4, 2, []), (9, .lcmp, 1, []), (10, .ifCond .gt 7, 3, [17]), (13, .iconst 1, 1, []), (14, .goto 4, 3, [18]), (17, .iconst 0, 1, []), (18, .ireturn, 1, [])])
def zm_132 : zM := (yX11_flag, cX11_flag, 1, (some .int), 0, 0, [(0, .iload_n 0, 1, []), (1, .ifCond .eq 7, 3, [8]), (4, .iconst 1, 1, []), (5, .goto 4, 3, [9]), (8, .iconst 0, 1, []), (9, .ireturn, 1, [])])
def zm_133 : zM := (yX11_firstDraft, cX11_firstDraft, 2, none, 0, 0, [(0, .iconst 0, 1, []), (1, .istore_n 1, 1, []), (2, .iload_n 1, 1, []), (3, .bipush 58, 2, []), (5, .if_icmp .ge 16, 3, [21]), (8, .aload_n 0, 1, []), (9, .getfield 29, 3, [11, 8, 4229]), (12, .iload_n 1, 1, []), (13, .iconst 0, 1, []), (14, .iastore, 1, []), (15, .iinc 1 1, 3, []), (18, .goto (-16), 3, [2]), (21, .aload_n 0, 1, []), (22, .getfield 29, 3, [11, 8, 4229]), (25, .bipush 30, 2, []), (27, .bipush 20, 2, []), (29, .iastore, 1, []), (30, .aload_n 0, 1, []), (31, .getfield 29, 3, [11, 8, 4229]), (34, .bipush 31, 2, []), (36, .bipush 8, 2, []), (38, .iastore, 1, []), (39, .aload_n 0, 1, []), (40, .iconst 0, 1, []), (41, .putfield 68, 3, [11, 9, 4230]), (44, .aload_n 0, 1, []), (45, .iconst 0, 1, []), (46, .putfield 72, 3, [11, 10, 4231]), (49, .aload_n 0, 1, []), (50, .iconst 0, 1, []), (51, .putfield 75, 3, [11, 14, 4235]), (54, .aload_n 0, 1, []), (55, .iconst 0, 1, []), (56, .putfield 79, 3, [11, 15, 4236]), (59, .aload_n 0, 1, []), (60, .bipush (-4), 2, []), (62, .putfield 82, 3, [11, 16, 4237]), (65, .return_, 1, [])])
def ze_134_0 : List zE := [(0, .iconst 0, 1, []), (1, .istore_n 1, 1, []), (2, .iload_n 1, 1, []), (3, .bipush 58, 2, []), (5, .if_icmp .ge 21, 3, [26]), (8, .aload_n 0, 1, []), (9, .getfield 7, 3, [11, 0, 4221]), (12, .iload_n 1, 1, []), (13, .aload_n 0, 1, []), (14, .getfield 29, 3, [11, 8, 4229]), (17, .iload_n 1, 1, []), (18, .iaload, 1, []), (19, .iastore, 1, []), (20, .iinc 1 1, 3, []), (23, .goto (-21), 3, [2]), (26, .aload_n 0, 1, []), (27, .aload_n 0, 1, []), (28, .getfield 68, 3, [11, 9, 4230]), (31, .putfield 85, 3, [11, 3, 4224]), (34, .aload_n 0, 1, []), (35, .aload_n 0, 1, []), (36, .getfield 72, 3, [11, 10, 4231]), (39, .putfield 88, 3, [11, 4, 4225]), (42, .iconst 0, 1, []), (43, .istore_n 1, 1, []), (44, .iload_n 1, 1, []), (45, .aload_n 0, 1, []), (46, .getfield 88, 3, [11, 4, 4225]), (49, .if_icmp .ge 45, 3, [94]), (52, .aload_n 0, 1, []), (53, .getfield 20, 3, [11, 5, 4226]), (56, .iload_n 1, 1, []), (57, .aload_n 0, 1, []), (58, .getfield 32, 3, [11, 11, 4232]), (61, .iload_n 1, 1, []), (62, .iaload, 1, []), (63, .iastore, 1, []), (64, .aload_n 0, 1, []), (65, .getfield 23, 3, [11, 6, 4227]), (68, .iload_n 1, 1, [])]
def ze_134_1 : List zE := [(69, .aload_n 0, 1, []), (70, .getfield 35, 3, [11, 12, 4233]), (73, .iload_n 1, 1, []), (74, .iaload, 1, []), (75, .iastore, 1, []), (76, .aload_n 0, 1, []), (77, .getfield 26, 3, [11, 7, 4228]), (80, .iload_n 1, 1, []), (81, .aload_n 0, 1, []), (82, .getfield 38, 3, [11, 13, 4234]), (85, .iload_n 1, 1, []), (86, .iaload, 1, []), (87, .iastore, 1, []), (88, .iinc 1 1, 3, []), (91, .goto (-47), 3, [44]), (94, .aload_n 0, 1, []), (95, .getfield 16, 3, [11, 2, 4223]), (98, .iconst 0, 1, []), (99, .iconst 0, 1, []), (100, .bastore, 1, []), (101, .aload_n 0, 1, []), (102, .getfield 16, 3, [11, 2, 4223]), (105, .iconst 1, 1, []), (106, .iconst 0, 1, []), (107, .bastore, 1, []), (108, .return_, 1, [])]
def zm_134 : zM := (yX11_keepDraft, cX11_keepDraft, 2, none, 0, 0, (ze_134_0 ++ (ze_134_1)))
def zm_135 : zM := (yX11_feed, cX11_feed, 2, (some .int), 1, 25, [(0, .iload_n 1, 1, []), (1, .i2l, 1, []), (2, .lconst 0, 1, []), (3, .ldc2_w 91, 3, [5095, 127]), (6, .invokestatic 93, 3, [131, 5096, 5098, 1012, 3, 5097]), (9, .ifCond .ne 5, 3, [14]), (12, .iconst (-1), 1, []), (13, .ireturn, 1, []), (14, .aload_n 0, 1, []), (15, .getfield 97, 3, [11, 18, 4239]), (18, .sipush 160, 3, []), (21, .if_icmp .ne 6, 3, [27]), (24, .bipush (-3), 2, []), (26, .ireturn, 1, []), (27, .aload_n 0, 1, []), (28, .getfield 41, 3, [11, 17, 4238]), (31, .aload_n 0, 1, []), (32, .getfield 97, 3, [11, 18, 4239]), (35, .iload_n 1, 1, []), (36, .iastore, 1, []), (37, .aload_n 0, 1, []), (38, .dup, 1, []), (39, .getfield 97, 3, [11, 18, 4239]), (42, .iconst 1, 1, []), (43, .iadd, 1, []), (44, .putfield 97, 3, [11, 18, 4239]), (47, .aload_n 0, 1, []), (48, .getfield 97, 3, [11, 18, 4239]), (51, .ireturn, 1, [])])
def zm_136 : zM := (yX11_end, cX11_end, 3, (some .int), 1, 25, [(0, .iload_n 1, 1, []), (1, .i2l, 1, []), (2, .lconst 0, 1, []), (3, .aload_n 0, 1, []), (4, .getfield 97, 3, [11, 18, 4239]), (7, .i2l, 1, []), (8, .invokestatic 93, 3, [131, 5096, 5098, 1012, 3, 5097]), (11, .ifCond .ne 5, 3, [16]), (14, .iconst (-1), 1, []), (15, .ireturn, 1, []), (16, .aload_n 0, 1, []), (17, .getfield 97, 3, [11, 18, 4239]), (20, .istore_n 2, 1, []), (21, .aload_n 0, 1, []), (22, .iload_n 1, 1, []), (23, .putfield 97, 3, [11, 18, 4239]), (26, .iload_n 2, 1, []), (27, .ireturn, 1, [])])
def zm_137 : zM := (yX11_needs, cX11_needs, 3, none, 0, 0, [(0, .iload_n 1, 1, []), (1, .ifCond .ne 23, 3, [24]), (4, .aload_n 0, 1, []), (5, .getfield 100, 3, [11, 23, 5004]), (8, .ifCond .ne 16, 3, [24]), (11, .aload_n 0, 1, []), (12, .iload_n 2, 1, []), (13, .putfield 100, 3, [11, 23, 5004]), (16, .aload_n 0, 1, []), (17, .aload_n 0, 1, []), (18, .getfield 103, 3, [11, 20, 5001]), (21, .putfield 106, 3, [11, 24, 5005]), (24, .return_, 1, [])])
def zm_138 : zM := (yX11_byteAt, cX11_byteAt, 2, (some .int), 0, 0, [(0, .iload_n 1, 1, []), (1, .aload_n 0, 1, []), (2, .getfield 97, 3, [11, 18, 4239]), (5, .if_icmp .ge 12, 3, [17]), (8, .aload_n 0, 1, []), (9, .getfield 41, 3, [11, 17, 4238]), (12, .iload_n 1, 1, []), (13, .iaload, 1, []), (14, .goto 4, 3, [18]), (17, .iconst (-1), 1, []), (18, .ireturn, 1, [])])
def zm_139 : zM := (yX11_is, cX11_is, 5, (some .boolean), 1, 21, [(0, .aload_n 0, 1, []), (1, .getfield 109, 3, [11, 19, 5000]), (4, .aload_n 0, 1, []), (5, .getfield 103, 3, [11, 20, 5001]), (8, .isub, 1, []), (9, .iload_n 1, 1, []), (10, .if_icmp .ne 48, 3, [58]), (13, .aload_n 0, 1, []), (14, .aload_n 0, 1, []), (15, .getfield 103, 3, [11, 20, 5001]), (18, .invokevirtual 112, 3, [138, 5111, 5114, 1012, 1, 5113, 33]), (21, .iload_n 2, 1, []), (22, .if_icmp .ne 36, 3, [58]), (25, .aload_n 0, 1, []), (26, .aload_n 0, 1, []), (27, .getfield 103, 3, [11, 20, 5001]), (30, .iconst 1, 1, []), (31, .iadd, 1, []), (32, .invokevirtual 112, 3, [138, 5111, 5114, 1012, 1, 5113, 33]), (35, .iload_n 3, 1, []), (36, .if_icmp .ne 22, 3, [58]), (39, .aload_n 0, 1, []), (40, .aload_n 0, 1, []), (41, .getfield 103, 3, [11, 20, 5001]), (44, .iconst 2, 1, []), (45, .iadd, 1, []), (46, .invokevirtual 112, 3, [138, 5111, 5114, 1012, 1, 5113, 33]), (49, .iload 4, 2, []), (51, .if_icmp .ne 7, 3, [58]), (54, .iconst 1, 1, []), (55, .goto 4, 3, [59]), (58, .iconst 0, 1, []), (59, .ireturn, 1, [])])
def zm_140 : zM := (yX11_ends, cX11_ends, 5, (some .boolean), 1, 21, [(0, .aload_n 0, 1, []), (1, .aload_n 0, 1, []), (2, .getfield 103, 3, [11, 20, 5001]), (5, .iconst 3, 1, []), (6, .iadd, 1, []), (7, .invokevirtual 112, 3, [138, 5111, 5114, 1012, 1, 5113, 33]), (10, .iload_n 1, 1, []), (11, .if_icmp .ne 64, 3, [75]), (14, .iload_n 2, 1, []), (15, .ifCond .eq 17, 3, [32]), (18, .aload_n 0, 1, []), (19, .aload_n 0, 1, []), (20, .getfield 103, 3, [11, 20, 5001]), (23, .iconst 4, 1, []), (24, .iadd, 1, []), (25, .invokevirtual 112, 3, [138, 5111, 5114, 1012, 1, 5113, 33]), (28, .iload_n 2, 1, []), (29, .if_icmp .ne 46, 3, [75]), (32, .iload_n 3, 1, []), (33, .ifCond .eq 17, 3, [50]), (36, .aload_n 0, 1, []), (37, .aload_n 0, 1, []), (38, .getfield 103, 3, [11, 20, 5001]), (41, .iconst 5, 1, []), (42, .iadd, 1, []), (43, .invokevirtual 112, 3, [138, 5111, 5114, 1012, 1, 5113, 33]), (46, .iload_n 3, 1, []), (47, .if_icmp .ne 28, 3, [75]), (50, .iload 4, 2, []), (52, .ifCond .eq 19, 3, [71]), (55, .aload_n 0, 1, []), (56, .aload_n 0, 1, []), (57, .getfield 103, 3, [11, 20, 5001]), (60, .bipush 6, 2, []), (62, .iadd, 1, []), (63, .invokevirtual 112, 3, [138, 5111, 5114, 1012, 1, 5113, 33]), (66, .iload 4, 2, []), (68, .if_icmp .ne 7, 3, [75]), (71, .iconst 1, 1, []), (72, .goto 4, 3, [76]), (75, .iconst 0, 1, []), (76, .ireturn, 1, [])])
def ze_141_0 : List zE := [(0, .aload_n 0, 1, []), (1, .iconst 5, 1, []), (2, .bipush 112, 2, []), (4, .bipush 108, 2, []), (6, .bipush 97, 2, []), (8, .invokevirtual 116, 3, [139, 5131, 5134, 1012, 4, 5133, 37]), (11, .ifCond .eq 18, 3, [29]), (14, .aload_n 0, 1, []), (15, .bipush 105, 2, []), (17, .bipush 110, 2, []), (19, .iconst 0, 1, []), (20, .iconst 0, 1, []), (21, .invokevirtual 120, 3, [140, 5135, 5138, 1012, 4, 5137, 38]), (24, .ifCond .eq 5, 3, [29]), (27, .iconst 0, 1, []), (28, .ireturn, 1, []), (29, .aload_n 0, 1, []), (30, .bipush 6, 2, []), (32, .bipush 115, 2, []), (34, .bipush 117, 2, []), (36, .bipush 108, 2, []), (38, .invokevirtual 116, 3, [139, 5131, 5134, 1012, 4, 5133, 37]), (41, .ifCond .eq 19, 3, [60]), (44, .aload_n 0, 1, []), (45, .bipush 108, 2, []), (47, .bipush 101, 2, []), (49, .bipush 110, 2, []), (51, .iconst 0, 1, []), (52, .invokevirtual 120, 3, [140, 5135, 5138, 1012, 4, 5137, 38]), (55, .ifCond .eq 5, 3, [60]), (58, .iconst 1, 1, []), (59, .ireturn, 1, []), (60, .aload_n 0, 1, []), (61, .iconst 3, 1, []), (62, .bipush 110, 2, []), (64, .bipush 117, 2, []), (66, .bipush 110, 2, []), (68, .invokevirtual 116, 3, [139, 5131, 5134, 1012, 4, 5133, 37]), (71, .ifCond .eq 5, 3, [76]), (74, .iconst 2, 1, [])]
def ze_141_1 : List zE := [(75, .ireturn, 1, []), (76, .aload_n 0, 1, []), (77, .bipush 7, 2, []), (79, .bipush 98, 2, []), (81, .bipush 114, 2, []), (83, .bipush 111, 2, []), (85, .invokevirtual 116, 3, [139, 5131, 5134, 1012, 4, 5133, 37]), (88, .ifCond .eq 20, 3, [108]), (91, .aload_n 0, 1, []), (92, .bipush 116, 2, []), (94, .bipush 104, 2, []), (96, .bipush 101, 2, []), (98, .bipush 114, 2, []), (100, .invokevirtual 120, 3, [140, 5135, 5138, 1012, 4, 5137, 38]), (103, .ifCond .eq 5, 3, [108]), (106, .iconst 3, 1, []), (107, .ireturn, 1, []), (108, .aload_n 0, 1, []), (109, .iconst 4, 1, []), (110, .bipush 104, 2, []), (112, .bipush 97, 2, []), (114, .bipush 116, 2, []), (116, .invokevirtual 116, 3, [139, 5131, 5134, 1012, 4, 5133, 37]), (119, .ifCond .eq 17, 3, [136]), (122, .aload_n 0, 1, []), (123, .bipush 101, 2, []), (125, .iconst 0, 1, []), (126, .iconst 0, 1, []), (127, .iconst 0, 1, []), (128, .invokevirtual 120, 3, [140, 5135, 5138, 1012, 4, 5137, 38]), (131, .ifCond .eq 5, 3, [136]), (134, .iconst 4, 1, []), (135, .ireturn, 1, []), (136, .aload_n 0, 1, []), (137, .iconst 4, 1, []), (138, .bipush 98, 2, []), (140, .bipush 111, 2, []), (142, .bipush 116, 2, []), (144, .invokevirtual 116, 3, [139, 5131, 5134, 1012, 4, 5133, 37]), (147, .ifCond .eq 17, 3, [164])]
def ze_141_2 : List zE := [(150, .aload_n 0, 1, []), (151, .bipush 104, 2, []), (153, .iconst 0, 1, []), (154, .iconst 0, 1, []), (155, .iconst 0, 1, []), (156, .invokevirtual 120, 3, [140, 5135, 5138, 1012, 4, 5137, 38]), (159, .ifCond .eq 5, 3, [164]), (162, .iconst 5, 1, []), (163, .ireturn, 1, []), (164, .aload_n 0, 1, []), (165, .iconst 3, 1, []), (166, .bipush 112, 2, []), (168, .bipush 111, 2, []), (170, .bipush 116, 2, []), (172, .invokevirtual 116, 3, [139, 5131, 5134, 1012, 4, 5133, 37]), (175, .ifCond .eq 6, 3, [181]), (178, .bipush 6, 2, []), (180, .ireturn, 1, []), (181, .aload_n 0, 1, []), (182, .iconst 4, 1, []), (183, .bipush 115, 2, []), (185, .bipush 108, 2, []), (187, .bipush 105, 2, []), (189, .invokevirtual 116, 3, [139, 5131, 5134, 1012, 4, 5133, 37]), (192, .ifCond .eq 20, 3, [212]), (195, .aload_n 0, 1, []), (196, .bipush 112, 2, []), (198, .iconst 0, 1, []), (199, .iconst 0, 1, []), (200, .iconst 0, 1, []), (201, .invokevirtual 120, 3, [140, 5135, 5138, 1012, 4, 5137, 38]), (204, .ifCond .eq 8, 3, [212]), (207, .bipush 7, 2, []), (209, .goto 36, 3, [245]), (212, .aload_n 0, 1, []), (213, .iconst 4, 1, []), (214, .bipush 112, 2, []), (216, .bipush 108, 2, []), (218, .bipush 97, 2, []), (220, .invokevirtual 116, 3, [139, 5131, 5134, 1012, 4, 5133, 37])]
def ze_141_3 : List zE := [(223, .ifCond .eq 20, 3, [243]), (226, .aload_n 0, 1, []), (227, .bipush 110, 2, []), (229, .iconst 0, 1, []), (230, .iconst 0, 1, []), (231, .iconst 0, 1, []), (232, .invokevirtual 120, 3, [140, 5135, 5138, 1012, 4, 5137, 38]), (235, .ifCond .eq 8, 3, [243]), (238, .bipush 8, 2, []), (240, .goto 5, 3, [245]), (243, .bipush (-4), 2, []), (245, .ireturn, 1, [])]
def zm_141 : zM := (yX11_lineNow, cX11_lineNow, 1, (some .int), 2, 45, (ze_141_0 ++ (ze_141_1 ++ (ze_141_2 ++ (ze_141_3)))))
def ze_142_0 : List zE := [(0, .aload_n 0, 1, []), (1, .getfield 100, 3, [11, 23, 5004]), (4, .ifCond .le 4, 3, [8]), (7, .return_, 1, []), (8, .aload_n 0, 1, []), (9, .aload_n 0, 1, []), (10, .getfield 109, 3, [11, 19, 5000]), (13, .invokevirtual 112, 3, [138, 5111, 5114, 1012, 1, 5113, 33]), (16, .bipush 32, 2, []), (18, .if_icmp .ne 16, 3, [34]), (21, .aload_n 0, 1, []), (22, .dup, 1, []), (23, .getfield 109, 3, [11, 19, 5000]), (26, .iconst 1, 1, []), (27, .iadd, 1, []), (28, .putfield 109, 3, [11, 19, 5000]), (31, .goto (-23), 3, [8]), (34, .aload_n 0, 1, []), (35, .aload_n 0, 1, []), (36, .getfield 109, 3, [11, 19, 5000]), (39, .putfield 103, 3, [11, 20, 5001]), (42, .aload_n 0, 1, []), (43, .aload_n 0, 1, []), (44, .getfield 109, 3, [11, 19, 5000]), (47, .invokevirtual 112, 3, [138, 5111, 5114, 1012, 1, 5113, 33]), (50, .istore_n 1, 1, []), (51, .iload_n 1, 1, []), (52, .ifCond .ge 11, 3, [63]), (55, .aload_n 0, 1, []), (56, .iconst 0, 1, []), (57, .putfield 123, 3, [11, 21, 5002]), (60, .goto 214, 3, [274]), (63, .iload_n 1, 1, []), (64, .i2l, 1, []), (65, .ldc2_w 126, 3, [5115, 97]), (68, .ldc2_w 128, 3, [5116, 122]), (71, .invokestatic 93, 3, [131, 5096, 5098, 1012, 3, 5097]), (74, .ifCond .eq 42, 3, [116]), (77, .aload_n 0, 1, []), (78, .iconst 1, 1, [])]
def ze_142_1 : List zE := [(79, .putfield 123, 3, [11, 21, 5002]), (82, .aload_n 0, 1, []), (83, .aload_n 0, 1, []), (84, .getfield 109, 3, [11, 19, 5000]), (87, .invokevirtual 112, 3, [138, 5111, 5114, 1012, 1, 5113, 33]), (90, .i2l, 1, []), (91, .ldc2_w 126, 3, [5115, 97]), (94, .ldc2_w 128, 3, [5116, 122]), (97, .invokestatic 93, 3, [131, 5096, 5098, 1012, 3, 5097]), (100, .ifCond .eq 174, 3, [274]), (103, .aload_n 0, 1, []), (104, .dup, 1, []), (105, .getfield 109, 3, [11, 19, 5000]), (108, .iconst 1, 1, []), (109, .iadd, 1, []), (110, .putfield 109, 3, [11, 19, 5000]), (113, .goto (-31), 3, [82]), (116, .iload_n 1, 1, []), (117, .i2l, 1, []), (118, .ldc2_w 130, 3, [5117, 48]), (121, .ldc2_w 132, 3, [5118, 57]), (124, .invokestatic 93, 3, [131, 5096, 5098, 1012, 3, 5097]), (127, .ifCond .eq 116, 3, [243]), (130, .aload_n 0, 1, []), (131, .iconst 2, 1, []), (132, .putfield 123, 3, [11, 21, 5002]), (135, .aload_n 0, 1, []), (136, .iconst 0, 1, []), (137, .putfield 134, 3, [11, 22, 5003]), (140, .aload_n 0, 1, []), (141, .aload_n 0, 1, []), (142, .getfield 109, 3, [11, 19, 5000]), (145, .invokevirtual 112, 3, [138, 5111, 5114, 1012, 1, 5113, 33]), (148, .i2l, 1, []), (149, .ldc2_w 130, 3, [5117, 48]), (152, .ldc2_w 132, 3, [5118, 57]), (155, .invokestatic 93, 3, [131, 5096, 5098, 1012, 3, 5097]), (158, .ifCond .eq 59, 3, [217]), (161, .aload_n 0, 1, []), (162, .aload_n 0, 1, [])]
def ze_142_2 : List zE := [(163, .getfield 109, 3, [11, 19, 5000]), (166, .aload_n 0, 1, []), (167, .getfield 103, 3, [11, 20, 5001]), (170, .isub, 1, []), (171, .iconst 2, 1, []), (172, .if_icmp .ge 25, 3, [197]), (175, .bipush 10, 2, []), (177, .aload_n 0, 1, []), (178, .getfield 134, 3, [11, 22, 5003]), (181, .imul, 1, []), (182, .aload_n 0, 1, []), (183, .aload_n 0, 1, []), (184, .getfield 109, 3, [11, 19, 5000]), (187, .invokevirtual 112, 3, [138, 5111, 5114, 1012, 1, 5113, 33]), (190, .iadd, 1, []), (191, .bipush 48, 2, []), (193, .isub, 1, []), (194, .goto 7, 3, [201]), (197, .aload_n 0, 1, []), (198, .getfield 134, 3, [11, 22, 5003]), (201, .putfield 134, 3, [11, 22, 5003]), (204, .aload_n 0, 1, []), (205, .dup, 1, []), (206, .getfield 109, 3, [11, 19, 5000]), (209, .iconst 1, 1, []), (210, .iadd, 1, []), (211, .putfield 109, 3, [11, 19, 5000]), (214, .goto (-74), 3, [140]), (217, .aload_n 0, 1, []), (218, .aload_n 0, 1, []), (219, .getfield 109, 3, [11, 19, 5000]), (222, .aload_n 0, 1, []), (223, .getfield 103, 3, [11, 20, 5001]), (226, .isub, 1, []), (227, .iconst 2, 1, []), (228, .if_icmp .gt 7, 3, [235]), (231, .iconst 1, 1, []), (232, .goto 4, 3, [236]), (235, .iconst 0, 1, []), (236, .iconst 1, 1, [])]
def ze_142_3 : List zE := [(237, .invokevirtual 137, 3, [137, 5119, 5122, 1012, 2, 5121, 34]), (240, .goto 34, 3, [274]), (243, .aload_n 0, 1, []), (244, .iconst 3, 1, []), (245, .putfield 123, 3, [11, 21, 5002]), (248, .aload_n 0, 1, []), (249, .iload_n 1, 1, []), (250, .bipush 59, 2, []), (252, .if_icmp .ne 7, 3, [259]), (255, .iconst 1, 1, []), (256, .goto 4, 3, [260]), (259, .iconst 0, 1, []), (260, .iconst 1, 1, []), (261, .invokevirtual 137, 3, [137, 5119, 5122, 1012, 2, 5121, 34]), (264, .aload_n 0, 1, []), (265, .dup, 1, []), (266, .getfield 109, 3, [11, 19, 5000]), (269, .iconst 1, 1, []), (270, .iadd, 1, []), (271, .putfield 109, 3, [11, 19, 5000]), (274, .return_, 1, [])]
def zm_142 : zM := (yX11_next, cX11_next, 2, none, 1, 25, (ze_142_0 ++ (ze_142_1 ++ (ze_142_2 ++ (ze_142_3)))))
def zm_143 : zM := (yX11_looked, cX11_looked, 3, (some .int), 1, 25, [(0, .aload_n 0, 1, []), (1, .getfield 100, 3, [11, 23, 5004]), (4, .ifCond .ne 21, 3, [25]), (7, .aload_n 0, 1, []), (8, .aload_n 0, 1, []), (9, .getfield 123, 3, [11, 21, 5002]), (12, .iconst 2, 1, []), (13, .if_icmp .ne 7, 3, [20]), (16, .iconst 1, 1, []), (17, .goto 4, 3, [21]), (20, .iconst 0, 1, []), (21, .iconst 2, 1, []), (22, .invokevirtual 137, 3, [137, 5119, 5122, 1012, 2, 5121, 34]), (25, .aload_n 0, 1, []), (26, .getfield 100, 3, [11, 23, 5004]), (29, .ifCond .ne 20, 3, [49]), (32, .aload_n 0, 1, []), (33, .aload_n 0, 1, []), (34, .getfield 134, 3, [11, 22, 5003]), (37, .i2l, 1, []), (38, .iload_n 1, 1, []), (39, .i2l, 1, []), (40, .iload_n 2, 1, []), (41, .i2l, 1, []), (42, .invokestatic 93, 3, [131, 5096, 5098, 1012, 3, 5097]), (45, .iconst 3, 1, []), (46, .invokevirtual 137, 3, [137, 5119, 5122, 1012, 2, 5121, 34]), (49, .aload_n 0, 1, []), (50, .getfield 100, 3, [11, 23, 5004]), (53, .ifCond .ne 10, 3, [63]), (56, .aload_n 0, 1, []), (57, .getfield 134, 3, [11, 22, 5003]), (60, .goto 4, 3, [64]), (63, .iconst 0, 1, []), (64, .ireturn, 1, [])])
def zm_144 : zM := (yX11_readNumber, cX11_readNumber, 4, (some .int), 2, 47, [(0, .aload_n 0, 1, []), (1, .iload_n 1, 1, []), (2, .iload_n 2, 1, []), (3, .invokevirtual 141, 3, [143, 5156, 5159, 1012, 2, 5158, 43]), (6, .istore_n 3, 1, []), (7, .aload_n 0, 1, []), (8, .invokevirtual 145, 3, [142, 5107, 5110, 1012, 0, 5109, 32]), (11, .iload_n 3, 1, []), (12, .ireturn, 1, [])])
def zm_145 : zM := (yX11_readHelper, cX11_readHelper, 2, (some .int), 3, 70, [(0, .aload_n 0, 1, []), (1, .iconst 0, 1, []), (2, .iconst 4, 1, []), (3, .invokevirtual 148, 3, [144, 5152, 5155, 1012, 2, 5154, 42]), (6, .istore_n 1, 1, []), (7, .aload_n 0, 1, []), (8, .iload_n 1, 1, []), (9, .aload_n 0, 1, []), (10, .getfield 82, 3, [11, 16, 4237]), (13, .if_icmp .le 7, 3, [20]), (16, .iload_n 1, 1, []), (17, .goto 7, 3, [24]), (20, .aload_n 0, 1, []), (21, .getfield 82, 3, [11, 16, 4237]), (24, .putfield 82, 3, [11, 16, 4237]), (27, .iload_n 1, 1, []), (28, .ireturn, 1, [])])
def ze_146_0 : List zE := [(0, .aload_n 0, 1, []), (1, .iconst 0, 1, []), (2, .iconst 4, 1, []), (3, .invokevirtual 141, 3, [143, 5156, 5159, 1012, 2, 5158, 43]), (6, .istore 4, 2, []), (8, .aload_n 0, 1, []), (9, .getfield 100, 3, [11, 23, 5004]), (12, .ifCond .ne 19, 3, [31]), (15, .aload_n 0, 1, []), (16, .iload 4, 2, []), (18, .iload_n 1, 1, []), (19, .if_icmp .eq 7, 3, [26]), (22, .iconst 1, 1, []), (23, .goto 4, 3, [27]), (26, .iconst 0, 1, []), (27, .iconst 3, 1, []), (28, .invokevirtual 137, 3, [137, 5119, 5122, 1012, 2, 5121, 34]), (31, .iload_n 2, 1, []), (32, .ifCond .eq 20, 3, [52]), (35, .aload_n 0, 1, []), (36, .getfield 79, 3, [11, 15, 4236]), (39, .iconst 5, 1, []), (40, .iload_n 1, 1, []), (41, .imul, 1, []), (42, .iload 4, 2, []), (44, .iadd, 1, []), (45, .ishr, 1, []), (46, .iconst 1, 1, []), (47, .iand, 1, []), (48, .iconst 1, 1, []), (49, .if_icmp .eq 24, 3, [73]), (52, .iload_n 3, 1, []), (53, .ifCond .eq 24, 3, [77]), (56, .aload_n 0, 1, []), (57, .getfield 79, 3, [11, 15, 4236]), (60, .iconst 5, 1, []), (61, .iload 4, 2, []), (63, .imul, 1, []), (64, .iload_n 1, 1, []), (65, .iadd, 1, [])]
def ze_146_1 : List zE := [(66, .ishr, 1, []), (67, .iconst 1, 1, []), (68, .iand, 1, []), (69, .iconst 1, 1, []), (70, .if_icmp .ne 7, 3, [77]), (73, .iconst 1, 1, []), (74, .goto 4, 3, [78]), (77, .iconst 0, 1, []), (78, .istore 5, 2, []), (80, .aload_n 0, 1, []), (81, .getfield 100, 3, [11, 23, 5004]), (84, .ifCond .ne 18, 3, [102]), (87, .aload_n 0, 1, []), (88, .iload 5, 2, []), (90, .ifCond .ne 7, 3, [97]), (93, .iconst 1, 1, []), (94, .goto 4, 3, [98]), (97, .iconst 0, 1, []), (98, .iconst 4, 1, []), (99, .invokevirtual 137, 3, [137, 5119, 5122, 1012, 2, 5121, 34]), (102, .aload_n 0, 1, []), (103, .getfield 100, 3, [11, 23, 5004]), (106, .ifCond .ne 67, 3, [173]), (109, .aload_n 0, 1, []), (110, .dup, 1, []), (111, .getfield 79, 3, [11, 15, 4236]), (114, .iload_n 2, 1, []), (115, .ifCond .eq 14, 3, [129]), (118, .iconst 1, 1, []), (119, .iconst 5, 1, []), (120, .iload_n 1, 1, []), (121, .imul, 1, []), (122, .iload 4, 2, []), (124, .iadd, 1, []), (125, .ishl, 1, []), (126, .goto 4, 3, [130]), (129, .iconst 0, 1, []), (130, .iload_n 3, 1, []), (131, .ifCond .eq 14, 3, [145]), (134, .iconst 1, 1, [])]
def ze_146_2 : List zE := [(135, .iconst 5, 1, []), (136, .iload 4, 2, []), (138, .imul, 1, []), (139, .iload_n 1, 1, []), (140, .iadd, 1, []), (141, .ishl, 1, []), (142, .goto 4, 3, [146]), (145, .iconst 0, 1, []), (146, .ior, 1, []), (147, .ior, 1, []), (148, .putfield 79, 3, [11, 15, 4236]), (151, .aload_n 0, 1, []), (152, .iload 4, 2, []), (154, .aload_n 0, 1, []), (155, .getfield 82, 3, [11, 16, 4237]), (158, .if_icmp .le 8, 3, [166]), (161, .iload 4, 2, []), (163, .goto 7, 3, [170]), (166, .aload_n 0, 1, []), (167, .getfield 82, 3, [11, 16, 4237]), (170, .putfield 82, 3, [11, 16, 4237]), (173, .aload_n 0, 1, []), (174, .invokevirtual 145, 3, [142, 5107, 5110, 1012, 0, 5109, 32]), (177, .iload 4, 2, []), (179, .ireturn, 1, [])]
def zm_146 : zM := (yX11_readOther, cX11_readOther, 6, (some .int), 2, 47, (ze_146_0 ++ (ze_146_1 ++ (ze_146_2))))
def ze_147_0 : List zE := [(0, .aload_n 0, 1, []), (1, .invokevirtual 151, 3, [145, 5148, 5151, 1012, 0, 5150, 41]), (4, .istore_n 2, 1, []), (5, .aload_n 0, 1, []), (6, .iload_n 2, 1, []), (7, .iconst 1, 1, []), (8, .iload_n 1, 1, []), (9, .invokevirtual 155, 3, [146, 5160, 5163, 1012, 3, 5162, 44]), (12, .istore_n 3, 1, []), (13, .aload_n 0, 1, []), (14, .iconst 0, 1, []), (15, .bipush 9, 2, []), (17, .invokevirtual 148, 3, [144, 5152, 5155, 1012, 2, 5154, 42]), (20, .istore 4, 2, []), (22, .aload_n 0, 1, []), (23, .getfield 100, 3, [11, 23, 5004]), (26, .ifCond .ne 50, 3, [76]), (29, .aload_n 0, 1, []), (30, .getfield 29, 3, [11, 8, 4229]), (33, .iconst 5, 1, []), (34, .iconst 5, 1, []), (35, .iload_n 2, 1, []), (36, .imul, 1, []), (37, .iadd, 1, []), (38, .iload_n 3, 1, []), (39, .iadd, 1, []), (40, .iload 4, 2, []), (42, .iastore, 1, []), (43, .aload_n 0, 1, []), (44, .getfield 29, 3, [11, 8, 4229]), (47, .iconst 5, 1, []), (48, .iconst 5, 1, []), (49, .iload_n 3, 1, []), (50, .imul, 1, []), (51, .iadd, 1, []), (52, .iload_n 2, 1, []), (53, .iadd, 1, []), (54, .iload_n 1, 1, []), (55, .ifCond .eq 8, 3, [63]), (58, .iload 4, 2, [])]
def ze_147_1 : List zE := [(60, .goto 15, 3, [75]), (63, .aload_n 0, 1, []), (64, .getfield 29, 3, [11, 8, 4229]), (67, .iconst 5, 1, []), (68, .iconst 5, 1, []), (69, .iload_n 3, 1, []), (70, .imul, 1, []), (71, .iadd, 1, []), (72, .iload_n 2, 1, []), (73, .iadd, 1, []), (74, .iaload, 1, []), (75, .iastore, 1, []), (76, .return_, 1, [])]
def zm_147 : zM := (yX11_readHate, cX11_readHate, 5, none, 4, 91, (ze_147_0 ++ (ze_147_1)))
def zm_148 : zM := (yX11_readSlip, cX11_readSlip, 1, none, 4, 91, [(0, .aload_n 0, 1, []), (1, .getfield 32, 3, [11, 11, 4232]), (4, .aload_n 0, 1, []), (5, .getfield 72, 3, [11, 10, 4231]), (8, .aload_n 0, 1, []), (9, .invokevirtual 151, 3, [145, 5148, 5151, 1012, 0, 5150, 41]), (12, .iastore, 1, []), (13, .aload_n 0, 1, []), (14, .getfield 35, 3, [11, 12, 4233]), (17, .aload_n 0, 1, []), (18, .getfield 72, 3, [11, 10, 4231]), (21, .aload_n 0, 1, []), (22, .aload_n 0, 1, []), (23, .getfield 32, 3, [11, 11, 4232]), (26, .aload_n 0, 1, []), (27, .getfield 72, 3, [11, 10, 4231]), (30, .iaload, 1, []), (31, .iconst 0, 1, []), (32, .iconst 0, 1, []), (33, .invokevirtual 155, 3, [146, 5160, 5163, 1012, 3, 5162, 44]), (36, .iastore, 1, []), (37, .aload_n 0, 1, []), (38, .getfield 38, 3, [11, 13, 4234]), (41, .aload_n 0, 1, []), (42, .getfield 72, 3, [11, 10, 4231]), (45, .aload_n 0, 1, []), (46, .iconst 1, 1, []), (47, .bipush 9, 2, []), (49, .invokevirtual 148, 3, [144, 5152, 5155, 1012, 2, 5154, 42]), (52, .iastore, 1, []), (53, .aload_n 0, 1, []), (54, .dup, 1, []), (55, .getfield 72, 3, [11, 10, 4231]), (58, .iconst 1, 1, []), (59, .iadd, 1, []), (60, .putfield 72, 3, [11, 10, 4231]), (63, .return_, 1, [])])
def zm_149 : zM := (yX11_pairOf, cX11_pairOf, 2, (some .int), 0, 0, [(0, .iload_n 0, 1, []), (1, .iload_n 1, 1, []), (2, .if_icmp .ge 12, 3, [14]), (5, .bipush 10, 2, []), (7, .iload_n 0, 1, []), (8, .imul, 1, []), (9, .iload_n 1, 1, []), (10, .iadd, 1, []), (11, .goto 9, 3, [20]), (14, .bipush 10, 2, []), (16, .iload_n 1, 1, []), (17, .imul, 1, []), (18, .iload_n 0, 1, []), (19, .iadd, 1, []), (20, .ireturn, 1, [])])
def zm_150 : zM := (yX11_readPlan, cX11_readPlan, 3, none, 4, 91, [(0, .aload_n 0, 1, []), (1, .invokevirtual 151, 3, [145, 5148, 5151, 1012, 0, 5150, 41]), (4, .istore_n 1, 1, []), (5, .aload_n 0, 1, []), (6, .iload_n 1, 1, []), (7, .iconst 0, 1, []), (8, .iconst 0, 1, []), (9, .invokevirtual 155, 3, [146, 5160, 5163, 1012, 3, 5162, 44]), (12, .istore_n 2, 1, []), (13, .aload_n 0, 1, []), (14, .getfield 29, 3, [11, 8, 4229]), (17, .bipush 37, 2, []), (19, .aload_n 0, 1, []), (20, .getfield 29, 3, [11, 8, 4229]), (23, .bipush 36, 2, []), (25, .iaload, 1, []), (26, .iadd, 1, []), (27, .iload_n 1, 1, []), (28, .iload_n 2, 1, []), (29, .invokestatic 159, 3, [149, 5172, 5174, 1012, 2, 5173]), (32, .iastore, 1, []), (33, .aload_n 0, 1, []), (34, .getfield 29, 3, [11, 8, 4229]), (37, .bipush 36, 2, []), (39, .dup2, 1, []), (40, .iaload, 1, []), (41, .iconst 1, 1, []), (42, .iadd, 1, []), (43, .iastore, 1, []), (44, .return_, 1, [])])
def ze_151_0 : List zE := [(0, .iload_n 1, 1, []), (1, .tableswitch 97 4 8 #[35, 35, 52, 83, 90], 35, []), (36, .aload_n 0, 1, []), (37, .iload_n 1, 1, []), (38, .iconst 5, 1, []), (39, .if_icmp .ne 7, 3, [46]), (42, .iconst 1, 1, []), (43, .goto 4, 3, [47]), (46, .iconst 0, 1, []), (47, .invokevirtual 162, 3, [147, 5144, 5147, 1012, 1, 5146, 40]), (50, .goto 70, 3, [120]), (53, .aload_n 0, 1, []), (54, .getfield 29, 3, [11, 8, 4229]), (57, .bipush 30, 2, []), (59, .aload_n 0, 1, []), (60, .iconst 1, 1, []), (61, .bipush 99, 2, []), (63, .invokevirtual 148, 3, [144, 5152, 5155, 1012, 2, 5154, 42]), (66, .iastore, 1, []), (67, .aload_n 0, 1, []), (68, .getfield 29, 3, [11, 8, 4229]), (71, .bipush 31, 2, []), (73, .aload_n 0, 1, []), (74, .iconst 1, 1, []), (75, .bipush 12, 2, []), (77, .invokevirtual 148, 3, [144, 5152, 5155, 1012, 2, 5154, 42]), (80, .iastore, 1, []), (81, .goto 39, 3, [120]), (84, .aload_n 0, 1, []), (85, .invokevirtual 166, 3, [148, 5164, 5167, 1012, 0, 5166, 45]), (88, .goto 32, 3, [120]), (91, .aload_n 0, 1, []), (92, .invokevirtual 169, 3, [150, 5168, 5171, 1012, 0, 5170, 46]), (95, .goto 25, 3, [120]), (98, .aload_n 0, 1, []), (99, .getfield 29, 3, [11, 8, 4229]), (102, .iconst 0, 1, []), (103, .aload_n 0, 1, []), (104, .getfield 68, 3, [11, 9, 4230]), (107, .iadd, 1, [])]
def ze_151_1 : List zE := [(108, .iload_n 1, 1, []), (109, .iastore, 1, []), (110, .aload_n 0, 1, []), (111, .dup, 1, []), (112, .getfield 68, 3, [11, 9, 4230]), (115, .iconst 1, 1, []), (116, .iadd, 1, []), (117, .putfield 68, 3, [11, 9, 4230]), (120, .return_, 1, [])]
def zm_151 : zM := (yX11_readLineOf, cX11_readLineOf, 2, none, 5, 115, (ze_151_0 ++ (ze_151_1)))
def ze_152_0 : List zE := [(0, .aload_n 0, 1, []), (1, .getfield 123, 3, [11, 21, 5002]), (4, .iconst 1, 1, []), (5, .if_icmp .ne 10, 3, [15]), (8, .aload_n 0, 1, []), (9, .invokevirtual 172, 3, [141, 5127, 5130, 1012, 0, 5129, 36]), (12, .goto 5, 3, [17]), (15, .bipush (-4), 2, []), (17, .istore_n 1, 1, []), (18, .aload_n 0, 1, []), (19, .iload_n 1, 1, []), (20, .bipush (-4), 2, []), (22, .if_icmp .eq 7, 3, [29]), (25, .iconst 1, 1, []), (26, .goto 4, 3, [30]), (29, .iconst 0, 1, []), (30, .iconst 2, 1, []), (31, .invokevirtual 137, 3, [137, 5119, 5122, 1012, 2, 5121, 34]), (34, .iload_n 1, 1, []), (35, .bipush 7, 2, []), (37, .if_icmp .ne 20, 3, [57]), (40, .aload_n 0, 1, []), (41, .getfield 72, 3, [11, 10, 4231]), (44, .bipush 6, 2, []), (46, .if_icmp .ne 7, 3, [53]), (49, .iconst 1, 1, []), (50, .goto 58, 3, [108]), (53, .iconst 0, 1, []), (54, .goto 54, 3, [108]), (57, .iload_n 1, 1, []), (58, .bipush 8, 2, []), (60, .if_icmp .ne 23, 3, [83]), (63, .aload_n 0, 1, []), (64, .getfield 29, 3, [11, 8, 4229]), (67, .bipush 36, 2, []), (69, .iaload, 1, []), (70, .bipush 8, 2, []), (72, .if_icmp .ne 7, 3, [79]), (75, .iconst 1, 1, []), (76, .goto 32, 3, [108])]
def ze_152_1 : List zE := [(79, .iconst 0, 1, []), (80, .goto 28, 3, [108]), (83, .iload_n 1, 1, []), (84, .i2l, 1, []), (85, .lconst 0, 1, []), (86, .ldc2_w 175, 3, [5139, 3]), (89, .invokestatic 93, 3, [131, 5096, 5098, 1012, 3, 5097]), (92, .ifCond .eq 15, 3, [107]), (95, .aload_n 0, 1, []), (96, .getfield 68, 3, [11, 9, 4230]), (99, .iconst 5, 1, []), (100, .if_icmp .ne 7, 3, [107]), (103, .iconst 1, 1, []), (104, .goto 4, 3, [108]), (107, .iconst 0, 1, []), (108, .istore_n 2, 1, []), (109, .aload_n 0, 1, []), (110, .iload_n 2, 1, []), (111, .ifCond .ne 7, 3, [118]), (114, .iconst 1, 1, []), (115, .goto 4, 3, [119]), (118, .iconst 0, 1, []), (119, .iconst 5, 1, []), (120, .invokevirtual 137, 3, [137, 5119, 5122, 1012, 2, 5121, 34]), (123, .aload_n 0, 1, []), (124, .iload_n 1, 1, []), (125, .bipush 6, 2, []), (127, .if_icmp .ne 10, 3, [137]), (130, .aload_n 0, 1, []), (131, .getfield 75, 3, [11, 14, 4235]), (134, .ifCond .ne 7, 3, [141]), (137, .iconst 1, 1, []), (138, .goto 4, 3, [142]), (141, .iconst 0, 1, []), (142, .iconst 4, 1, []), (143, .invokevirtual 137, 3, [137, 5119, 5122, 1012, 2, 5121, 34]), (146, .aload_n 0, 1, []), (147, .aload_n 0, 1, []), (148, .getfield 75, 3, [11, 14, 4235]), (151, .ifCond .ne 9, 3, [160])]
def ze_152_2 : List zE := [(154, .iload_n 1, 1, []), (155, .bipush 6, 2, []), (157, .if_icmp .ne 7, 3, [164]), (160, .iconst 1, 1, []), (161, .goto 4, 3, [165]), (164, .iconst 0, 1, []), (165, .putfield 75, 3, [11, 14, 4235]), (168, .aload_n 0, 1, []), (169, .invokevirtual 145, 3, [142, 5107, 5110, 1012, 0, 5109, 32]), (172, .aload_n 0, 1, []), (173, .getfield 100, 3, [11, 23, 5004]), (176, .ifCond .le 4, 3, [180]), (179, .return_, 1, []), (180, .aload_n 0, 1, []), (181, .iload_n 1, 1, []), (182, .invokevirtual 177, 3, [151, 5140, 5143, 1012, 1, 5142, 39]), (185, .aload_n 0, 1, []), (186, .getfield 100, 3, [11, 23, 5004]), (189, .ifCond .ne 21, 3, [210]), (192, .aload_n 0, 1, []), (193, .aload_n 0, 1, []), (194, .getfield 123, 3, [11, 21, 5002]), (197, .iconst 3, 1, []), (198, .if_icmp .ne 7, 3, [205]), (201, .iconst 1, 1, []), (202, .goto 4, 3, [206]), (205, .iconst 0, 1, []), (206, .iconst 2, 1, []), (207, .invokevirtual 137, 3, [137, 5119, 5122, 1012, 2, 5121, 34]), (210, .aload_n 0, 1, []), (211, .invokevirtual 145, 3, [142, 5107, 5110, 1012, 0, 5109, 32]), (214, .return_, 1, [])]
def zm_152 : zM := (yX11_readLine, cX11_readLine, 3, none, 6, 136, (ze_152_0 ++ (ze_152_1 ++ (ze_152_2))))
def ze_153_0 : List zE := [(0, .iconst 0, 1, []), (1, .istore_n 1, 1, []), (2, .aload_n 0, 1, []), (3, .iconst 0, 1, []), (4, .putfield 100, 3, [11, 23, 5004]), (7, .aload_n 0, 1, []), (8, .iconst 0, 1, []), (9, .putfield 109, 3, [11, 19, 5000]), (12, .aload_n 0, 1, []), (13, .invokevirtual 62, 3, [133, 4213, 4216, 1012, 0, 4215, 30]), (16, .aload_n 0, 1, []), (17, .invokevirtual 145, 3, [142, 5107, 5110, 1012, 0, 5109, 32]), (20, .aload_n 0, 1, []), (21, .getfield 100, 3, [11, 23, 5004]), (24, .ifCond .ne 20, 3, [44]), (27, .aload_n 0, 1, []), (28, .getfield 123, 3, [11, 21, 5002]), (31, .ifCond .eq 13, 3, [44]), (34, .aload_n 0, 1, []), (35, .invokevirtual 181, 3, [152, 5123, 5126, 1012, 0, 5125, 35]), (38, .iinc 1 1, 3, []), (41, .goto (-21), 3, [20]), (44, .aload_n 0, 1, []), (45, .getfield 100, 3, [11, 23, 5004]), (48, .ifCond .ne 25, 3, [73]), (51, .aload_n 0, 1, []), (52, .aload_n 0, 1, []), (53, .getfield 82, 3, [11, 16, 4237]), (56, .aload_n 0, 1, []), (57, .getfield 68, 3, [11, 9, 4230]), (60, .if_icmp .ge 7, 3, [67]), (63, .iconst 1, 1, []), (64, .goto 4, 3, [68]), (67, .iconst 0, 1, []), (68, .bipush 6, 2, []), (70, .invokevirtual 137, 3, [137, 5119, 5122, 1012, 2, 5121, 34]), (73, .aload_n 0, 1, []), (74, .iconst 0, 1, []), (75, .putfield 97, 3, [11, 18, 4239]), (78, .aload_n 0, 1, [])]
def ze_153_1 : List zE := [(79, .getfield 100, 3, [11, 23, 5004]), (82, .ifCond .le 11, 3, [93]), (85, .bipush (-10), 2, []), (87, .aload_n 0, 1, []), (88, .getfield 106, 3, [11, 24, 5005]), (91, .isub, 1, []), (92, .ireturn, 1, []), (93, .aload_n 0, 1, []), (94, .invokevirtual 65, 3, [134, 4217, 4220, 1012, 0, 4219, 31]), (97, .iload_n 1, 1, []), (98, .ireturn, 1, [])]
def zm_153 : zM := (yX11_text, cX11_text, 2, (some .int), 7, 158, (ze_153_0 ++ (ze_153_1)))
def zm_154 : zM := (yX11_fault, cX11_fault, 1, (some .int), 0, 0, [(0, .aload_n 0, 1, []), (1, .getfield 100, 3, [11, 23, 5004]), (4, .ireturn, 1, [])])
def zm_155 : zM := (yX11_isHelper, cX11_isHelper, 2, (some .boolean), 1, 25, [(0, .iload_n 1, 1, []), (1, .i2l, 1, []), (2, .lconst 0, 1, []), (3, .aload_n 0, 1, []), (4, .getfield 85, 3, [11, 3, 4224]), (7, .iconst 1, 1, []), (8, .isub, 1, []), (9, .i2l, 1, []), (10, .invokestatic 93, 3, [131, 5096, 5098, 1012, 3, 5097]), (13, .ireturn, 1, [])])
def zm_156 : zM := (yX11_areTwo, cX11_areTwo, 3, (some .boolean), 2, 46, [(0, .aload_n 0, 1, []), (1, .iload_n 1, 1, []), (2, .invokevirtual 184, 3, [155, 5187, 5190, 1012, 1, 5189, 47]), (5, .ifCond .eq 20, 3, [25]), (8, .aload_n 0, 1, []), (9, .iload_n 2, 1, []), (10, .invokevirtual 184, 3, [155, 5187, 5190, 1012, 1, 5189, 47]), (13, .ifCond .eq 12, 3, [25]), (16, .iload_n 1, 1, []), (17, .iload_n 2, 1, []), (18, .if_icmp .eq 7, 3, [25]), (21, .iconst 1, 1, []), (22, .goto 4, 3, [26]), (25, .iconst 0, 1, []), (26, .ireturn, 1, [])])
def zm_157 : zM := (yX11_isSlip, cX11_isSlip, 2, (some .boolean), 1, 25, [(0, .iload_n 1, 1, []), (1, .i2l, 1, []), (2, .lconst 0, 1, []), (3, .aload_n 0, 1, []), (4, .getfield 88, 3, [11, 4, 4225]), (7, .iconst 1, 1, []), (8, .isub, 1, []), (9, .i2l, 1, []), (10, .invokestatic 93, 3, [131, 5096, 5098, 1012, 3, 5097]), (13, .ireturn, 1, [])])
def zm_158 : zM := (yX11_isPart, cX11_isPart, 1, (some .boolean), 1, 25, [(0, .iload_n 0, 1, []), (1, .i2l, 1, []), (2, .lconst 0, 1, []), (3, .lconst 1, 1, []), (4, .invokestatic 93, 3, [131, 5096, 5098, 1012, 3, 5097]), (7, .ireturn, 1, [])])
def zm_159 : zM := (yX11_starts, cX11_starts, 2, none, 0, 0, [(0, .iconst 0, 1, []), (1, .istore_n 1, 1, []), (2, .iload_n 1, 1, []), (3, .bipush 58, 2, []), (5, .if_icmp .ge 21, 3, [26]), (8, .aload_n 0, 1, []), (9, .getfield 13, 3, [11, 1, 4222]), (12, .iload_n 1, 1, []), (13, .aload_n 0, 1, []), (14, .getfield 7, 3, [11, 0, 4221]), (17, .iload_n 1, 1, []), (18, .iaload, 1, []), (19, .iastore, 1, []), (20, .iinc 1 1, 3, []), (23, .goto (-21), 3, [2]), (26, .return_, 1, [])])
def zm_160 : zM := (yX11_settles, cX11_settles, 2, none, 0, 0, [(0, .iconst 0, 1, []), (1, .istore_n 1, 1, []), (2, .iload_n 1, 1, []), (3, .bipush 58, 2, []), (5, .if_icmp .ge 21, 3, [26]), (8, .aload_n 0, 1, []), (9, .getfield 7, 3, [11, 0, 4221]), (12, .iload_n 1, 1, []), (13, .aload_n 0, 1, []), (14, .getfield 13, 3, [11, 1, 4222]), (17, .iload_n 1, 1, []), (18, .iaload, 1, []), (19, .iastore, 1, []), (20, .iinc 1 1, 3, []), (23, .goto (-21), 3, [2]), (26, .return_, 1, [])])
def zm_161 : zM := (yX11_hates, cX11_hates, 3, (some .int), 0, 0, [(0, .aload_n 0, 1, []), (1, .getfield 13, 3, [11, 1, 4222]), (4, .iconst 5, 1, []), (5, .iconst 5, 1, []), (6, .iload_n 1, 1, []), (7, .imul, 1, []), (8, .iadd, 1, []), (9, .iload_n 2, 1, []), (10, .iadd, 1, []), (11, .iaload, 1, []), (12, .ireturn, 1, [])])
def zm_162 : zM := (yX11_becomesHate, cX11_becomesHate, 4, none, 0, 0, [(0, .aload_n 0, 1, []), (1, .getfield 13, 3, [11, 1, 4222]), (4, .iconst 5, 1, []), (5, .iconst 5, 1, []), (6, .iload_n 1, 1, []), (7, .imul, 1, []), (8, .iadd, 1, []), (9, .iload_n 2, 1, []), (10, .iadd, 1, []), (11, .iload_n 3, 1, []), (12, .ifCond .ge 7, 3, [19]), (15, .iconst 0, 1, []), (16, .goto 15, 3, [31]), (19, .iload_n 3, 1, []), (20, .bipush 9, 2, []), (22, .if_icmp .le 8, 3, [30]), (25, .bipush 9, 2, []), (27, .goto 4, 3, [31]), (30, .iload_n 3, 1, []), (31, .iastore, 1, []), (32, .return_, 1, [])])
def zm_163 : zM := (yX11_feels, cX11_feels, 4, (some .int), 1, 22, [(0, .aload_n 0, 1, []), (1, .iload_n 1, 1, []), (2, .iload_n 2, 1, []), (3, .invokevirtual 188, 3, [161, 5206, 5209, 1012, 2, 5208, 50]), (6, .istore_n 3, 1, []), (7, .aload_n 0, 1, []), (8, .getfield 13, 3, [11, 1, 4222]), (11, .iconst 0, 1, []), (12, .iload_n 1, 1, []), (13, .iadd, 1, []), (14, .iaload, 1, []), (15, .tableswitch 52 1 3 #[25, 37, 48], 25, []), (40, .iload_n 3, 1, []), (41, .ifCond .le 9, 3, [50]), (44, .iload_n 3, 1, []), (45, .iconst 1, 1, []), (46, .isub, 1, []), (47, .goto 4, 3, [51]), (50, .iconst 0, 1, []), (51, .ireturn, 1, []), (52, .iload_n 3, 1, []), (53, .iconst 3, 1, []), (54, .if_icmp .ge 7, 3, [61]), (57, .iload_n 3, 1, []), (58, .goto 4, 3, [62]), (61, .iconst 3, 1, []), (62, .ireturn, 1, []), (63, .iconst 2, 1, []), (64, .iload_n 3, 1, []), (65, .imul, 1, []), (66, .ireturn, 1, []), (67, .iload_n 3, 1, []), (68, .ireturn, 1, [])])
def zm_164 : zM := (yX11_least, cX11_least, 2, (some .int), 0, 0, [(0, .iload_n 0, 1, []), (1, .iload_n 1, 1, []), (2, .if_icmp .ge 7, 3, [9]), (5, .iload_n 0, 1, []), (6, .goto 4, 3, [10]), (9, .iload_n 1, 1, []), (10, .ireturn, 1, [])])
def zm_165 : zM := (yX11_turnOf, cX11_turnOf, 3, (some .int), 2, 45, [(0, .aload_n 0, 1, []), (1, .iload_n 1, 1, []), (2, .iload_n 2, 1, []), (3, .invokevirtual 191, 3, [163, 5210, 5213, 1012, 2, 5212, 51]), (6, .aload_n 0, 1, []), (7, .iload_n 2, 1, []), (8, .iload_n 1, 1, []), (9, .invokevirtual 191, 3, [163, 5210, 5213, 1012, 2, 5212, 51]), (12, .invokestatic 194, 3, [164, 6048, 6050, 1012, 2, 6049]), (15, .ireturn, 1, [])])
def zm_166 : zM := (yX11_coolsBy, cX11_coolsBy, 2, (some .int), 0, 0, [(0, .aload_n 0, 1, []), (1, .getfield 13, 3, [11, 1, 4222]), (4, .iconst 0, 1, []), (5, .iload_n 1, 1, []), (6, .iadd, 1, []), (7, .iaload, 1, []), (8, .iconst 1, 1, []), (9, .if_icmp .ne 15, 3, [24]), (12, .aload_n 0, 1, []), (13, .getfield 13, 3, [11, 1, 4222]), (16, .bipush 32, 2, []), (18, .iaload, 1, []), (19, .iconst 2, 1, []), (20, .irem, 1, []), (21, .goto 20, 3, [41]), (24, .aload_n 0, 1, []), (25, .getfield 13, 3, [11, 1, 4222]), (28, .iconst 0, 1, []), (29, .iload_n 1, 1, []), (30, .iadd, 1, []), (31, .iaload, 1, []), (32, .iconst 3, 1, []), (33, .if_icmp .ne 7, 3, [40]), (36, .iconst 2, 1, []), (37, .goto 4, 3, [41]), (40, .iconst 1, 1, []), (41, .ireturn, 1, [])])
def zm_167 : zM := (yX11_coolsOff, cX11_coolsOff, 3, none, 1, 23, [(0, .aload_n 0, 1, []), (1, .iload_n 1, 1, []), (2, .iload_n 2, 1, []), (3, .aload_n 0, 1, []), (4, .iload_n 1, 1, []), (5, .iload_n 2, 1, []), (6, .invokevirtual 188, 3, [161, 5206, 5209, 1012, 2, 5208, 50]), (9, .aload_n 0, 1, []), (10, .iload_n 1, 1, []), (11, .invokevirtual 197, 3, [166, 6067, 6070, 1012, 1, 6069, 61]), (14, .isub, 1, []), (15, .invokevirtual 200, 3, [162, 6003, 6006, 1012, 3, 6005, 55]), (18, .aload_n 0, 1, []), (19, .iload_n 2, 1, []), (20, .iload_n 1, 1, []), (21, .aload_n 0, 1, []), (22, .iload_n 2, 1, []), (23, .iload_n 1, 1, []), (24, .invokevirtual 188, 3, [161, 5206, 5209, 1012, 2, 5208, 50]), (27, .aload_n 0, 1, []), (28, .iload_n 2, 1, []), (29, .invokevirtual 197, 3, [166, 6067, 6070, 1012, 1, 6069, 61]), (32, .isub, 1, []), (33, .invokevirtual 200, 3, [162, 6003, 6006, 1012, 3, 6005, 55]), (36, .aload_n 0, 1, []), (37, .getfield 13, 3, [11, 1, 4222]), (40, .bipush 32, 2, []), (42, .dup2, 1, []), (43, .iaload, 1, []), (44, .iconst 1, 1, []), (45, .iadd, 1, []), (46, .iastore, 1, []), (47, .return_, 1, [])])
def zm_168 : zM := (yX11_stirsOn, cX11_stirsOn, 3, (some .boolean), 3, 67, [(0, .aload_n 0, 1, []), (1, .getfield 13, 3, [11, 1, 4222]), (4, .bipush 34, 2, []), (6, .iaload, 1, []), (7, .iconst 1, 1, []), (8, .if_icmp .ne 5, 3, [13]), (11, .iconst 0, 1, []), (12, .ireturn, 1, []), (13, .aload_n 0, 1, []), (14, .iload_n 1, 1, []), (15, .iload_n 2, 1, []), (16, .invokevirtual 188, 3, [161, 5206, 5209, 1012, 2, 5208, 50]), (19, .ifCond .ne 23, 3, [42]), (22, .aload_n 0, 1, []), (23, .iload_n 2, 1, []), (24, .iload_n 1, 1, []), (25, .invokevirtual 188, 3, [161, 5206, 5209, 1012, 2, 5208, 50]), (28, .ifCond .ne 14, 3, [42]), (31, .aload_n 0, 1, []), (32, .getfield 13, 3, [11, 1, 4222]), (35, .bipush 34, 2, []), (37, .iconst 1, 1, []), (38, .iastore, 1, []), (39, .goto 30, 3, [69]), (42, .aload_n 0, 1, []), (43, .getfield 13, 3, [11, 1, 4222]), (46, .bipush 33, 2, []), (48, .sipush 999, 3, []), (51, .aload_n 0, 1, []), (52, .getfield 13, 3, [11, 1, 4222]), (55, .bipush 33, 2, []), (57, .iaload, 1, []), (58, .aload_n 0, 1, []), (59, .iload_n 1, 1, []), (60, .iload_n 2, 1, []), (61, .invokevirtual 204, 3, [165, 6044, 6047, 1012, 2, 6046, 57]), (64, .iadd, 1, []), (65, .invokestatic 194, 3, [164, 6048, 6050, 1012, 2, 6049]), (68, .iastore, 1, []), (69, .aload_n 0, 1, []), (70, .iload_n 1, 1, []), (71, .iload_n 2, 1, []), (72, .invokevirtual 207, 3, [167, 6063, 6066, 1012, 2, 6065, 60]), (75, .iconst 1, 1, []), (76, .ireturn, 1, [])])
def zm_169 : zM := (yX11_stirs, cX11_stirs, 3, (some .boolean), 4, 89, [(0, .aload_n 0, 1, []), (1, .getfield 13, 3, [11, 1, 4222]), (4, .bipush 32, 2, []), (6, .iaload, 1, []), (7, .aload_n 0, 1, []), (8, .getfield 13, 3, [11, 1, 4222]), (11, .bipush 31, 2, []), (13, .iaload, 1, []), (14, .if_icmp .ge 16, 3, [30]), (17, .aload_n 0, 1, []), (18, .iload_n 1, 1, []), (19, .iload_n 2, 1, []), (20, .invokevirtual 211, 3, [168, 6059, 6062, 1012, 2, 6061, 59]), (23, .ifCond .eq 7, 3, [30]), (26, .iconst 1, 1, []), (27, .goto 4, 3, [31]), (30, .iconst 0, 1, []), (31, .ireturn, 1, [])])
def zm_170 : zM := (yX11_allHate, cX11_allHate, 3, (some .int), 0, 0, [(0, .iconst 0, 1, []), (1, .istore_n 1, 1, []), (2, .iconst 0, 1, []), (3, .istore_n 2, 1, []), (4, .iload_n 2, 1, []), (5, .bipush 25, 2, []), (7, .if_icmp .ge 20, 3, [27]), (10, .iload_n 1, 1, []), (11, .aload_n 0, 1, []), (12, .getfield 13, 3, [11, 1, 4222]), (15, .iconst 5, 1, []), (16, .iload_n 2, 1, []), (17, .iadd, 1, []), (18, .iaload, 1, []), (19, .iadd, 1, []), (20, .istore_n 1, 1, []), (21, .iinc 2 1, 3, []), (24, .goto (-20), 3, [4]), (27, .iload_n 1, 1, []), (28, .ireturn, 1, [])])
def zm_171 : zM := (yX11_plansGo, cX11_plansGo, 3, none, 5, 111, [(0, .aload_n 0, 1, []), (1, .bipush (-4), 2, []), (3, .putfield 215, 3, [11, 25, 5006]), (6, .iconst 0, 1, []), (7, .istore_n 1, 1, []), (8, .iload_n 1, 1, []), (9, .aload_n 0, 1, []), (10, .getfield 13, 3, [11, 1, 4222]), (13, .bipush 36, 2, []), (15, .iaload, 1, []), (16, .if_icmp .ge 63, 3, [79]), (19, .aload_n 0, 1, []), (20, .aload_n 0, 1, []), (21, .getfield 13, 3, [11, 1, 4222]), (24, .bipush 37, 2, []), (26, .iload_n 1, 1, []), (27, .iadd, 1, []), (28, .iaload, 1, []), (29, .bipush 10, 2, []), (31, .idiv, 1, []), (32, .aload_n 0, 1, []), (33, .getfield 13, 3, [11, 1, 4222]), (36, .bipush 37, 2, []), (38, .iload_n 1, 1, []), (39, .iadd, 1, []), (40, .iaload, 1, []), (41, .bipush 10, 2, []), (43, .irem, 1, []), (44, .invokevirtual 218, 3, [169, 6055, 6058, 1012, 2, 6057, 58]), (47, .istore_n 2, 1, []), (48, .aload_n 0, 1, []), (49, .iload_n 2, 1, []), (50, .ifCond .ne 16, 3, [66]), (53, .aload_n 0, 1, []), (54, .getfield 215, 3, [11, 25, 5006]), (57, .bipush (-4), 2, []), (59, .if_icmp .ne 7, 3, [66]), (62, .iload_n 1, 1, []), (63, .goto 7, 3, [70]), (66, .aload_n 0, 1, []), (67, .getfield 215, 3, [11, 25, 5006]), (70, .putfield 215, 3, [11, 25, 5006]), (73, .iinc 1 1, 3, []), (76, .goto (-68), 3, [8]), (79, .return_, 1, [])])
def zm_172 : zM := (yX11_rule, cX11_rule, 2, (some .int), 0, 0, [(0, .iload_n 1, 1, []), (1, .tableswitch 89 0 8 #[51, 56, 56, 56, 56, 56, 68, 73, 81], 51, []), (52, .aload_n 0, 1, []), (53, .getfield 85, 3, [11, 3, 4224]), (56, .ireturn, 1, []), (57, .aload_n 0, 1, []), (58, .getfield 7, 3, [11, 0, 4221]), (61, .bipush 30, 2, []), (63, .iload_n 1, 1, []), (64, .iadd, 1, []), (65, .iconst 1, 1, []), (66, .isub, 1, []), (67, .iaload, 1, []), (68, .ireturn, 1, []), (69, .aload_n 0, 1, []), (70, .getfield 88, 3, [11, 4, 4225]), (73, .ireturn, 1, []), (74, .aload_n 0, 1, []), (75, .getfield 7, 3, [11, 0, 4221]), (78, .bipush 35, 2, []), (80, .iaload, 1, []), (81, .ireturn, 1, []), (82, .aload_n 0, 1, []), (83, .getfield 7, 3, [11, 0, 4221]), (86, .bipush 36, 2, []), (88, .iaload, 1, []), (89, .ireturn, 1, []), (90, .iconst (-1), 1, []), (91, .ireturn, 1, [])])
def zm_173 : zM := (yX11_helper, cX11_helper, 2, (some .int), 2, 46, [(0, .aload_n 0, 1, []), (1, .iload_n 1, 1, []), (2, .invokevirtual 184, 3, [155, 5187, 5190, 1012, 1, 5189, 47]), (5, .ifCond .eq 14, 3, [19]), (8, .aload_n 0, 1, []), (9, .getfield 7, 3, [11, 0, 4221]), (12, .iconst 0, 1, []), (13, .iload_n 1, 1, []), (14, .iadd, 1, []), (15, .iaload, 1, []), (16, .goto 4, 3, [20]), (19, .iconst (-1), 1, []), (20, .ireturn, 1, [])])
def zm_174 : zM := (yX11_hatred, cX11_hatred, 4, (some .int), 3, 68, [(0, .aload_n 0, 1, []), (1, .iload_n 1, 1, []), (2, .iload_n 2, 1, []), (3, .invokevirtual 221, 3, [156, 5195, 5198, 1012, 2, 5197, 48]), (6, .ifCond .eq 10, 3, [16]), (9, .iload_n 3, 1, []), (10, .invokestatic 224, 3, [158, 5199, 5201, 1012, 1, 5200]), (13, .ifCond .ne 5, 3, [18]), (16, .iconst (-1), 1, []), (17, .ireturn, 1, []), (18, .aload_n 0, 1, []), (19, .invokevirtual 227, 3, [159, 5202, 5205, 1012, 0, 5204, 49]), (22, .iload_n 3, 1, []), (23, .ifCond .ne 12, 3, [35]), (26, .aload_n 0, 1, []), (27, .iload_n 1, 1, []), (28, .iload_n 2, 1, []), (29, .invokevirtual 188, 3, [161, 5206, 5209, 1012, 2, 5208, 50]), (32, .goto 9, 3, [41]), (35, .aload_n 0, 1, []), (36, .iload_n 1, 1, []), (37, .iload_n 2, 1, []), (38, .invokevirtual 191, 3, [163, 5210, 5213, 1012, 2, 5212, 51]), (41, .ireturn, 1, [])])
def zm_175 : zM := (yX11_slip, cX11_slip, 3, (some .int), 2, 46, [(0, .aload_n 0, 1, []), (1, .iload_n 1, 1, []), (2, .invokevirtual 230, 3, [157, 5218, 5221, 1012, 1, 5220, 52]), (5, .ifCond .ne 5, 3, [10]), (8, .iconst (-1), 1, []), (9, .ireturn, 1, []), (10, .iload_n 2, 1, []), (11, .tableswitch 62 0 3 #[29, 36, 43, 50], 29, []), (40, .aload_n 0, 1, []), (41, .getfield 20, 3, [11, 5, 4226]), (44, .iload_n 1, 1, []), (45, .iaload, 1, []), (46, .ireturn, 1, []), (47, .aload_n 0, 1, []), (48, .getfield 23, 3, [11, 6, 4227]), (51, .iload_n 1, 1, []), (52, .iaload, 1, []), (53, .ireturn, 1, []), (54, .aload_n 0, 1, []), (55, .getfield 26, 3, [11, 7, 4228]), (58, .iload_n 1, 1, []), (59, .iaload, 1, []), (60, .ireturn, 1, []), (61, .aload_n 0, 1, []), (62, .getfield 7, 3, [11, 0, 4221]), (65, .bipush 35, 2, []), (67, .iaload, 1, []), (68, .iload_n 1, 1, []), (69, .ishr, 1, []), (70, .iconst 1, 1, []), (71, .iand, 1, []), (72, .ireturn, 1, []), (73, .iconst (-1), 1, []), (74, .ireturn, 1, [])])
def zm_176 : zM := (yX11_plan, cX11_plan, 2, (some .int), 1, 25, [(0, .iload_n 1, 1, []), (1, .i2l, 1, []), (2, .lconst 0, 1, []), (3, .aload_n 0, 1, []), (4, .getfield 7, 3, [11, 0, 4221]), (7, .bipush 36, 2, []), (9, .iaload, 1, []), (10, .iconst 1, 1, []), (11, .isub, 1, []), (12, .i2l, 1, []), (13, .invokestatic 93, 3, [131, 5096, 5098, 1012, 3, 5097]), (16, .ifCond .eq 15, 3, [31]), (19, .aload_n 0, 1, []), (20, .getfield 7, 3, [11, 0, 4221]), (23, .bipush 37, 2, []), (25, .iload_n 1, 1, []), (26, .iadd, 1, []), (27, .iaload, 1, []), (28, .goto 4, 3, [32]), (31, .iconst (-1), 1, []), (32, .ireturn, 1, [])])
def zm_177 : zM := (yX11_becomes, cX11_becomes, 4, (some .int), 0, 0, [(0, .aload_n 0, 1, []), (1, .getfield 7, 3, [11, 0, 4221]), (4, .iload_n 1, 1, []), (5, .iaload, 1, []), (6, .istore_n 3, 1, []), (7, .aload_n 0, 1, []), (8, .getfield 7, 3, [11, 0, 4221]), (11, .iload_n 1, 1, []), (12, .iload_n 2, 1, []), (13, .iastore, 1, []), (14, .iload_n 3, 1, []), (15, .ireturn, 1, [])])
def zm_178 : zM := (yX11_hate, cX11_hate, 4, (some .int), 3, 68, [(0, .aload_n 0, 1, []), (1, .iload_n 1, 1, []), (2, .iload_n 2, 1, []), (3, .invokevirtual 221, 3, [156, 5195, 5198, 1012, 2, 5197, 48]), (6, .ifCond .eq 30, 3, [36]), (9, .iload_n 3, 1, []), (10, .i2l, 1, []), (11, .lconst 0, 1, []), (12, .ldc2_w 233, 3, [5230, 9]), (15, .invokestatic 93, 3, [131, 5096, 5098, 1012, 3, 5097]), (18, .ifCond .eq 18, 3, [36]), (21, .aload_n 0, 1, []), (22, .iconst 5, 1, []), (23, .iconst 5, 1, []), (24, .iload_n 1, 1, []), (25, .imul, 1, []), (26, .iadd, 1, []), (27, .iload_n 2, 1, []), (28, .iadd, 1, []), (29, .iload_n 3, 1, []), (30, .invokevirtual 235, 3, [177, 5231, 5234, 1012, 2, 5233, 53]), (33, .goto 4, 3, [37]), (36, .iconst (-1), 1, []), (37, .ireturn, 1, [])])
def zm_179 : zM := (yX11_uses, cX11_uses, 2, none, 1, 23, [(0, .aload_n 0, 1, []), (1, .aload_n 0, 1, []), (2, .getfield 20, 3, [11, 5, 4226]), (5, .iload_n 1, 1, []), (6, .iaload, 1, []), (7, .aload_n 0, 1, []), (8, .getfield 23, 3, [11, 6, 4227]), (11, .iload_n 1, 1, []), (12, .iaload, 1, []), (13, .aload_n 0, 1, []), (14, .aload_n 0, 1, []), (15, .getfield 20, 3, [11, 5, 4226]), (18, .iload_n 1, 1, []), (19, .iaload, 1, []), (20, .aload_n 0, 1, []), (21, .getfield 23, 3, [11, 6, 4227]), (24, .iload_n 1, 1, []), (25, .iaload, 1, []), (26, .invokevirtual 188, 3, [161, 5206, 5209, 1012, 2, 5208, 50]), (29, .aload_n 0, 1, []), (30, .getfield 26, 3, [11, 7, 4228]), (33, .iload_n 1, 1, []), (34, .iaload, 1, []), (35, .iadd, 1, []), (36, .invokevirtual 200, 3, [162, 6003, 6006, 1012, 3, 6005, 55]), (39, .aload_n 0, 1, []), (40, .getfield 13, 3, [11, 1, 4222]), (43, .bipush 35, 2, []), (45, .dup2, 1, []), (46, .iaload, 1, []), (47, .iconst 1, 1, []), (48, .iload_n 1, 1, []), (49, .ishl, 1, []), (50, .ior, 1, []), (51, .iastore, 1, []), (52, .return_, 1, [])])
def zm_180 : zM := (yX11_use, cX11_use, 2, (some .int), 2, 46, [(0, .aload_n 0, 1, []), (1, .iload_n 1, 1, []), (2, .invokevirtual 230, 3, [157, 5218, 5221, 1012, 1, 5220, 52]), (5, .ifCond .ne 5, 3, [10]), (8, .iconst (-1), 1, []), (9, .ireturn, 1, []), (10, .aload_n 0, 1, []), (11, .getfield 7, 3, [11, 0, 4221]), (14, .bipush 35, 2, []), (16, .iaload, 1, []), (17, .iload_n 1, 1, []), (18, .ishr, 1, []), (19, .iconst 1, 1, []), (20, .iand, 1, []), (21, .iconst 1, 1, []), (22, .if_icmp .ne 6, 3, [28]), (25, .bipush (-2), 2, []), (27, .ireturn, 1, []), (28, .aload_n 0, 1, []), (29, .invokevirtual 227, 3, [159, 5202, 5205, 1012, 0, 5204, 49]), (32, .aload_n 0, 1, []), (33, .iload_n 1, 1, []), (34, .invokevirtual 238, 3, [179, 5239, 6002, 1012, 1, 6001, 54]), (37, .aload_n 0, 1, []), (38, .invokevirtual 241, 3, [160, 6007, 6010, 1012, 0, 6009, 56]), (41, .aload_n 0, 1, []), (42, .aload_n 0, 1, []), (43, .getfield 20, 3, [11, 5, 4226]), (46, .iload_n 1, 1, []), (47, .iaload, 1, []), (48, .aload_n 0, 1, []), (49, .getfield 23, 3, [11, 6, 4227]), (52, .iload_n 1, 1, []), (53, .iaload, 1, []), (54, .invokevirtual 188, 3, [161, 5206, 5209, 1012, 2, 5208, 50]), (57, .ireturn, 1, [])])
def ze_181_0 : List zE := [(0, .aload_n 0, 1, []), (1, .iload_n 1, 1, []), (2, .iload_n 2, 1, []), (3, .invokevirtual 221, 3, [156, 5195, 5198, 1012, 2, 5197, 48]), (6, .ifCond .ne 5, 3, [11]), (9, .iconst (-1), 1, []), (10, .ireturn, 1, []), (11, .iconst 5, 1, []), (12, .iconst 5, 1, []), (13, .iload_n 1, 1, []), (14, .imul, 1, []), (15, .iadd, 1, []), (16, .iload_n 2, 1, []), (17, .iadd, 1, []), (18, .istore_n 3, 1, []), (19, .aload_n 0, 1, []), (20, .getfield 7, 3, [11, 0, 4221]), (23, .iconst 5, 1, []), (24, .iconst 5, 1, []), (25, .iload_n 2, 1, []), (26, .imul, 1, []), (27, .iadd, 1, []), (28, .iload_n 1, 1, []), (29, .iadd, 1, []), (30, .iaload, 1, []), (31, .istore 4, 2, []), (33, .aload_n 0, 1, []), (34, .getfield 7, 3, [11, 0, 4221]), (37, .iload_n 3, 1, []), (38, .aload_n 0, 1, []), (39, .getfield 7, 3, [11, 0, 4221]), (42, .iload_n 3, 1, []), (43, .iaload, 1, []), (44, .iload 4, 2, []), (46, .if_icmp .ge 8, 3, [54]), (49, .iload 4, 2, []), (51, .goto 9, 3, [60]), (54, .aload_n 0, 1, []), (55, .getfield 7, 3, [11, 0, 4221]), (58, .iload_n 3, 1, [])]
def ze_181_1 : List zE := [(59, .iaload, 1, []), (60, .iastore, 1, []), (61, .aload_n 0, 1, []), (62, .getfield 7, 3, [11, 0, 4221]), (65, .iload_n 3, 1, []), (66, .iaload, 1, []), (67, .ireturn, 1, [])]
def zm_181 : zM := (yX11_tell, cX11_tell, 5, (some .int), 3, 68, (ze_181_0 ++ (ze_181_1)))
def zm_182 : zM := (yX11_forgive, cX11_forgive, 4, (some .int), 2, 46, [(0, .aload_n 0, 1, []), (1, .iload_n 1, 1, []), (2, .invokevirtual 184, 3, [155, 5187, 5190, 1012, 1, 5189, 47]), (5, .ifCond .ne 5, 3, [10]), (8, .iconst (-1), 1, []), (9, .ireturn, 1, []), (10, .iconst 0, 1, []), (11, .istore_n 2, 1, []), (12, .iconst 0, 1, []), (13, .istore_n 3, 1, []), (14, .iload_n 3, 1, []), (15, .iconst 5, 1, []), (16, .if_icmp .ge 35, 3, [51]), (19, .iload_n 2, 1, []), (20, .aload_n 0, 1, []), (21, .iconst 5, 1, []), (22, .iconst 5, 1, []), (23, .iload_n 1, 1, []), (24, .imul, 1, []), (25, .iadd, 1, []), (26, .iload_n 3, 1, []), (27, .iadd, 1, []), (28, .iconst 0, 1, []), (29, .invokevirtual 235, 3, [177, 5231, 5234, 1012, 2, 5233, 53]), (32, .ifCond .le 7, 3, [39]), (35, .iconst 1, 1, []), (36, .goto 4, 3, [40]), (39, .iconst 0, 1, []), (40, .invokestatic 244, 3, [132, 6019, 6021, 1012, 1, 6020]), (43, .iadd, 1, []), (44, .istore_n 2, 1, []), (45, .iinc 3 1, 3, []), (48, .goto (-34), 3, [14]), (51, .iload_n 2, 1, []), (52, .ireturn, 1, [])])
def zm_183 : zM := (yX11_teach, cX11_teach, 3, (some .int), 2, 46, [(0, .aload_n 0, 1, []), (1, .iload_n 1, 1, []), (2, .invokevirtual 184, 3, [155, 5187, 5190, 1012, 1, 5189, 47]), (5, .ifCond .eq 26, 3, [31]), (8, .iload_n 2, 1, []), (9, .i2l, 1, []), (10, .lconst 0, 1, []), (11, .ldc2_w 175, 3, [5139, 3]), (14, .invokestatic 93, 3, [131, 5096, 5098, 1012, 3, 5097]), (17, .ifCond .eq 14, 3, [31]), (20, .aload_n 0, 1, []), (21, .iconst 0, 1, []), (22, .iload_n 1, 1, []), (23, .iadd, 1, []), (24, .iload_n 2, 1, []), (25, .invokevirtual 235, 3, [177, 5231, 5234, 1012, 2, 5233, 53]), (28, .goto 4, 3, [32]), (31, .iconst (-1), 1, []), (32, .ireturn, 1, [])])
def zm_184 : zM := (yX11_set, cX11_set, 3, (some .int), 2, 45, [(0, .iload_n 1, 1, []), (1, .invokestatic 224, 3, [158, 5199, 5201, 1012, 1, 5200]), (4, .ifCond .eq 25, 3, [29]), (7, .iload_n 2, 1, []), (8, .i2l, 1, []), (9, .lconst 1, 1, []), (10, .iload_n 1, 1, []), (11, .ifCond .ne 9, 3, [20]), (14, .ldc2_w 248, 3, [6030, 99]), (17, .goto 6, 3, [23]), (20, .ldc2_w 250, 3, [6031, 12]), (23, .invokestatic 93, 3, [131, 5096, 5098, 1012, 3, 5097]), (26, .ifCond .ne 5, 3, [31]), (29, .iconst (-1), 1, []), (30, .ireturn, 1, []), (31, .iload_n 1, 1, []), (32, .iconst 1, 1, []), (33, .if_icmp .ne 19, 3, [52]), (36, .aload_n 0, 1, []), (37, .getfield 7, 3, [11, 0, 4221]), (40, .bipush 32, 2, []), (42, .iaload, 1, []), (43, .iload_n 2, 1, []), (44, .if_icmp .le 8, 3, [52]), (47, .bipush (-2), 2, []), (49, .goto 19, 3, [68]), (52, .aload_n 0, 1, []), (53, .iload_n 1, 1, []), (54, .ifCond .ne 8, 3, [62]), (57, .bipush 30, 2, []), (59, .goto 5, 3, [64]), (62, .bipush 31, 2, []), (64, .iload_n 2, 1, []), (65, .invokevirtual 235, 3, [177, 5231, 5234, 1012, 2, 5233, 53]), (68, .ireturn, 1, [])])
def zm_185 : zM := (yX11_plans, cX11_plans, 3, (some .int), 3, 68, [(0, .aload_n 0, 1, []), (1, .iload_n 1, 1, []), (2, .iload_n 2, 1, []), (3, .invokevirtual 221, 3, [156, 5195, 5198, 1012, 2, 5197, 48]), (6, .ifCond .ne 5, 3, [11]), (9, .iconst (-1), 1, []), (10, .ireturn, 1, []), (11, .aload_n 0, 1, []), (12, .getfield 7, 3, [11, 0, 4221]), (15, .bipush 36, 2, []), (17, .iaload, 1, []), (18, .bipush 8, 2, []), (20, .if_icmp .ne 6, 3, [26]), (23, .bipush (-3), 2, []), (25, .ireturn, 1, []), (26, .aload_n 0, 1, []), (27, .getfield 7, 3, [11, 0, 4221]), (30, .bipush 37, 2, []), (32, .aload_n 0, 1, []), (33, .getfield 7, 3, [11, 0, 4221]), (36, .bipush 36, 2, []), (38, .iaload, 1, []), (39, .iadd, 1, []), (40, .iload_n 1, 1, []), (41, .iload_n 2, 1, []), (42, .invokestatic 159, 3, [149, 5172, 5174, 1012, 2, 5173]), (45, .iastore, 1, []), (46, .aload_n 0, 1, []), (47, .getfield 7, 3, [11, 0, 4221]), (50, .bipush 36, 2, []), (52, .dup2, 1, []), (53, .iaload, 1, []), (54, .iconst 1, 1, []), (55, .iadd, 1, []), (56, .iastore, 1, []), (57, .aload_n 0, 1, []), (58, .getfield 7, 3, [11, 0, 4221]), (61, .bipush 36, 2, []), (63, .iaload, 1, []), (64, .ireturn, 1, [])])
def zm_186 : zM := (yX11_cut, cX11_cut, 2, (some .int), 1, 25, [(0, .iload_n 1, 1, []), (1, .i2l, 1, []), (2, .lconst 0, 1, []), (3, .aload_n 0, 1, []), (4, .getfield 7, 3, [11, 0, 4221]), (7, .bipush 36, 2, []), (9, .iaload, 1, []), (10, .i2l, 1, []), (11, .invokestatic 93, 3, [131, 5096, 5098, 1012, 3, 5097]), (14, .ifCond .eq 13, 3, [27]), (17, .aload_n 0, 1, []), (18, .bipush 36, 2, []), (20, .iload_n 1, 1, []), (21, .invokevirtual 235, 3, [177, 5231, 5234, 1012, 2, 5233, 53]), (24, .goto 4, 3, [28]), (27, .iconst (-1), 1, []), (28, .ireturn, 1, [])])
def zm_187 : zM := (yX11_turn, cX11_turn, 3, (some .int), 3, 68, [(0, .aload_n 0, 1, []), (1, .iload_n 1, 1, []), (2, .iload_n 2, 1, []), (3, .invokevirtual 221, 3, [156, 5195, 5198, 1012, 2, 5197, 48]), (6, .ifCond .ne 5, 3, [11]), (9, .iconst (-1), 1, []), (10, .ireturn, 1, []), (11, .aload_n 0, 1, []), (12, .invokevirtual 227, 3, [159, 5202, 5205, 1012, 0, 5204, 49]), (15, .aload_n 0, 1, []), (16, .iload_n 1, 1, []), (17, .iload_n 2, 1, []), (18, .invokevirtual 204, 3, [165, 6044, 6047, 1012, 2, 6046, 57]), (21, .ireturn, 1, [])])
def zm_188 : zM := (yX11_stir, cX11_stir, 3, (some .int), 5, 111, [(0, .aload_n 0, 1, []), (1, .iload_n 1, 1, []), (2, .iload_n 2, 1, []), (3, .invokevirtual 221, 3, [156, 5195, 5198, 1012, 2, 5197, 48]), (6, .ifCond .ne 5, 3, [11]), (9, .iconst (-1), 1, []), (10, .ireturn, 1, []), (11, .aload_n 0, 1, []), (12, .invokevirtual 227, 3, [159, 5202, 5205, 1012, 0, 5204, 49]), (15, .aload_n 0, 1, []), (16, .iload_n 1, 1, []), (17, .iload_n 2, 1, []), (18, .invokevirtual 218, 3, [169, 6055, 6058, 1012, 2, 6057, 58]), (21, .ifCond .ne 6, 3, [27]), (24, .bipush (-2), 2, []), (26, .ireturn, 1, []), (27, .aload_n 0, 1, []), (28, .invokevirtual 241, 3, [160, 6007, 6010, 1012, 0, 6009, 56]), (31, .aload_n 0, 1, []), (32, .getfield 7, 3, [11, 0, 4221]), (35, .bipush 33, 2, []), (37, .iaload, 1, []), (38, .ireturn, 1, [])])
def zm_189 : zM := (yX11_runs, cX11_runs, 2, (some .int), 6, 133, [(0, .iload_n 1, 1, []), (1, .i2l, 1, []), (2, .lconst 0, 1, []), (3, .ldc2_w 252, 3, [6075, 4]), (6, .invokestatic 93, 3, [131, 5096, 5098, 1012, 3, 5097]), (9, .ifCond .ne 5, 3, [14]), (12, .iconst (-1), 1, []), (13, .ireturn, 1, []), (14, .aload_n 0, 1, []), (15, .invokevirtual 227, 3, [159, 5202, 5205, 1012, 0, 5204, 49]), (18, .aload_n 0, 1, []), (19, .invokevirtual 254, 3, [171, 6076, 6079, 1012, 0, 6078, 62]), (22, .iload_n 1, 1, []), (23, .ifCond .ne 13, 3, [36]), (26, .aload_n 0, 1, []), (27, .getfield 13, 3, [11, 1, 4222]), (30, .bipush 33, 2, []), (32, .iaload, 1, []), (33, .goto 49, 3, [82]), (36, .iload_n 1, 1, []), (37, .iconst 1, 1, []), (38, .if_icmp .ne 13, 3, [51]), (41, .aload_n 0, 1, []), (42, .getfield 13, 3, [11, 1, 4222]), (45, .bipush 32, 2, []), (47, .iaload, 1, []), (48, .goto 34, 3, [82]), (51, .iload_n 1, 1, []), (52, .iconst 2, 1, []), (53, .if_icmp .ne 13, 3, [66]), (56, .aload_n 0, 1, []), (57, .getfield 13, 3, [11, 1, 4222]), (60, .bipush 34, 2, []), (62, .iaload, 1, []), (63, .goto 19, 3, [82]), (66, .iload_n 1, 1, []), (67, .iconst 3, 1, []), (68, .if_icmp .ne 10, 3, [78]), (71, .aload_n 0, 1, []), (72, .invokevirtual 257, 3, [170, 6080, 6083, 1012, 0, 6082, 63]), (75, .goto 7, 3, [82]), (78, .aload_n 0, 1, []), (79, .getfield 215, 3, [11, 25, 5006]), (82, .ireturn, 1, [])])
def zm_190 : zM := (yX11_ahead, cX11_ahead, 5, (some .int), 5, 111, [(0, .aload_n 0, 1, []), (1, .iload_n 1, 1, []), (2, .iload_n 2, 1, []), (3, .invokevirtual 221, 3, [156, 5195, 5198, 1012, 2, 5197, 48]), (6, .ifCond .eq 15, 3, [21]), (9, .iload_n 3, 1, []), (10, .i2l, 1, []), (11, .lconst 0, 1, []), (12, .ldc2_w 250, 3, [6031, 12]), (15, .invokestatic 93, 3, [131, 5096, 5098, 1012, 3, 5097]), (18, .ifCond .ne 5, 3, [23]), (21, .iconst (-1), 1, []), (22, .ireturn, 1, []), (23, .aload_n 0, 1, []), (24, .invokevirtual 227, 3, [159, 5202, 5205, 1012, 0, 5204, 49]), (27, .iconst 0, 1, []), (28, .istore 4, 2, []), (30, .iload 4, 2, []), (32, .iload_n 3, 1, []), (33, .if_icmp .ge 16, 3, [49]), (36, .aload_n 0, 1, []), (37, .iload_n 1, 1, []), (38, .iload_n 2, 1, []), (39, .invokevirtual 218, 3, [169, 6055, 6058, 1012, 2, 6057, 58]), (42, .pop, 1, []), (43, .iinc 4 1, 3, []), (46, .goto (-16), 3, [30]), (49, .aload_n 0, 1, []), (50, .getfield 13, 3, [11, 1, 4222]), (53, .bipush 33, 2, []), (55, .iaload, 1, []), (56, .ireturn, 1, [])])
def zm_191 : zM := (yX11_lasts, cX11_lasts, 4, (some .int), 4, 89, [(0, .aload_n 0, 1, []), (1, .iload_n 1, 1, []), (2, .iload_n 2, 1, []), (3, .invokevirtual 221, 3, [156, 5195, 5198, 1012, 2, 5197, 48]), (6, .ifCond .ne 5, 3, [11]), (9, .iconst (-1), 1, []), (10, .ireturn, 1, []), (11, .iconst 0, 1, []), (12, .istore_n 3, 1, []), (13, .aload_n 0, 1, []), (14, .invokevirtual 227, 3, [159, 5202, 5205, 1012, 0, 5204, 49]), (17, .iload_n 3, 1, []), (18, .bipush 99, 2, []), (20, .if_icmp .ge 35, 3, [55]), (23, .aload_n 0, 1, []), (24, .getfield 13, 3, [11, 1, 4222]), (27, .bipush 34, 2, []), (29, .iaload, 1, []), (30, .ifCond .ne 25, 3, [55]), (33, .aload_n 0, 1, []), (34, .iload_n 1, 1, []), (35, .iload_n 2, 1, []), (36, .invokevirtual 204, 3, [165, 6044, 6047, 1012, 2, 6046, 57]), (39, .ifCond .le 16, 3, [55]), (42, .aload_n 0, 1, []), (43, .iload_n 1, 1, []), (44, .iload_n 2, 1, []), (45, .invokevirtual 211, 3, [168, 6059, 6062, 1012, 2, 6061, 59]), (48, .pop, 1, []), (49, .iinc 3 1, 3, []), (52, .goto (-35), 3, [17]), (55, .iload_n 3, 1, []), (56, .ireturn, 1, [])])
def ze_192_0 : List zE := [(0, .aload_n 0, 1, []), (1, .iload_n 1, 1, []), (2, .iload_n 2, 1, []), (3, .invokevirtual 221, 3, [156, 5195, 5198, 1012, 2, 5197, 48]), (6, .ifCond .eq 17, 3, [23]), (9, .aload_n 0, 1, []), (10, .iload_n 2, 1, []), (11, .iload_n 3, 1, []), (12, .invokevirtual 221, 3, [156, 5195, 5198, 1012, 2, 5197, 48]), (15, .ifCond .eq 8, 3, [23]), (18, .iload_n 1, 1, []), (19, .iload_n 3, 1, []), (20, .if_icmp .ne 5, 3, [25]), (23, .iconst (-1), 1, []), (24, .ireturn, 1, []), (25, .aload_n 0, 1, []), (26, .invokevirtual 227, 3, [159, 5202, 5205, 1012, 0, 5204, 49]), (29, .aload_n 0, 1, []), (30, .iload_n 1, 1, []), (31, .iload_n 2, 1, []), (32, .invokevirtual 191, 3, [163, 5210, 5213, 1012, 2, 5212, 51]), (35, .aload_n 0, 1, []), (36, .iload_n 2, 1, []), (37, .iload_n 3, 1, []), (38, .invokevirtual 191, 3, [163, 5210, 5213, 1012, 2, 5212, 51]), (41, .aload_n 0, 1, []), (42, .iload_n 3, 1, []), (43, .iload_n 1, 1, []), (44, .invokevirtual 191, 3, [163, 5210, 5213, 1012, 2, 5212, 51]), (47, .invokestatic 194, 3, [164, 6048, 6050, 1012, 2, 6049]), (50, .invokestatic 194, 3, [164, 6048, 6050, 1012, 2, 6049]), (53, .istore 4, 2, []), (55, .aload_n 0, 1, []), (56, .iload_n 1, 1, []), (57, .iload_n 3, 1, []), (58, .invokevirtual 191, 3, [163, 5210, 5213, 1012, 2, 5212, 51]), (61, .aload_n 0, 1, []), (62, .iload_n 3, 1, []), (63, .iload_n 2, 1, []), (64, .invokevirtual 191, 3, [163, 5210, 5213, 1012, 2, 5212, 51])]
def ze_192_1 : List zE := [(67, .aload_n 0, 1, []), (68, .iload_n 2, 1, []), (69, .iload_n 1, 1, []), (70, .invokevirtual 191, 3, [163, 5210, 5213, 1012, 2, 5212, 51]), (73, .invokestatic 194, 3, [164, 6048, 6050, 1012, 2, 6049]), (76, .invokestatic 194, 3, [164, 6048, 6050, 1012, 2, 6049]), (79, .istore 5, 2, []), (81, .iload 4, 2, []), (83, .iload 5, 2, []), (85, .if_icmp .le 8, 3, [93]), (88, .iload 4, 2, []), (90, .goto 5, 3, [95]), (93, .iload 5, 2, []), (95, .ireturn, 1, [])]
def zm_192 : zM := (yX11_three, cX11_three, 6, (some .int), 3, 68, (ze_192_0 ++ (ze_192_1)))
def zm_193 : zM := (yX11_pairs, cX11_pairs, 1, (some .int), 0, 0, [(0, .aload_n 0, 1, []), (1, .getfield 85, 3, [11, 3, 4224]), (4, .aload_n 0, 1, []), (5, .getfield 85, 3, [11, 3, 4224]), (8, .iconst 1, 1, []), (9, .isub, 1, []), (10, .imul, 1, []), (11, .iconst 2, 1, []), (12, .idiv, 1, []), (13, .ireturn, 1, [])])
def zm_194 : zM := (yX11_pairAt, cX11_pairAt, 6, (some .int), 0, 0, [(0, .iload_n 1, 1, []), (1, .istore_n 2, 1, []), (2, .bipush (-4), 2, []), (4, .istore_n 3, 1, []), (5, .iconst 0, 1, []), (6, .istore 4, 2, []), (8, .iload 4, 2, []), (10, .aload_n 0, 1, []), (11, .getfield 85, 3, [11, 3, 4224]), (14, .if_icmp .ge 50, 3, [64]), (17, .iload 4, 2, []), (19, .iconst 1, 1, []), (20, .iadd, 1, []), (21, .istore 5, 2, []), (23, .iload 5, 2, []), (25, .aload_n 0, 1, []), (26, .getfield 85, 3, [11, 3, 4224]), (29, .if_icmp .ge 29, 3, [58]), (32, .iload_n 2, 1, []), (33, .ifCond .ne 14, 3, [47]), (36, .bipush 10, 2, []), (38, .iload 4, 2, []), (40, .imul, 1, []), (41, .iload 5, 2, []), (43, .iadd, 1, []), (44, .goto 4, 3, [48]), (47, .iload_n 3, 1, []), (48, .istore_n 3, 1, []), (49, .iinc 2 (-1), 3, []), (52, .iinc 5 1, 3, []), (55, .goto (-32), 3, [23]), (58, .iinc 4 1, 3, []), (61, .goto (-53), 3, [8]), (64, .iload_n 3, 1, []), (65, .ireturn, 1, [])])
def zm_195 : zM := (yX11_rowsOf, cX11_rowsOf, 4, (some .int), 1, 20, [(0, .iconst 1, 1, []), (1, .istore_n 2, 1, []), (2, .iconst 0, 1, []), (3, .istore_n 3, 1, []), (4, .iload_n 3, 1, []), (5, .iload_n 1, 1, []), (6, .if_icmp .ge 16, 3, [22]), (9, .iload_n 2, 1, []), (10, .aload_n 0, 1, []), (11, .invokevirtual 260, 3, [193, 6102, 6105, 1012, 0, 6104, 64]), (14, .imul, 1, []), (15, .istore_n 2, 1, []), (16, .iinc 3 1, 3, []), (19, .goto (-15), 3, [4]), (22, .iload_n 2, 1, []), (23, .ireturn, 1, [])])
def zm_196 : zM := (yX11_pairIn, cX11_pairIn, 4, (some .int), 2, 43, [(0, .aload_n 0, 1, []), (1, .iload_n 1, 1, []), (2, .aload_n 0, 1, []), (3, .iload_n 2, 1, []), (4, .iconst 1, 1, []), (5, .isub, 1, []), (6, .iload_n 3, 1, []), (7, .isub, 1, []), (8, .invokevirtual 263, 3, [195, 6114, 6117, 1012, 1, 6116, 67]), (11, .idiv, 1, []), (12, .aload_n 0, 1, []), (13, .invokevirtual 260, 3, [193, 6102, 6105, 1012, 0, 6104, 64]), (16, .irem, 1, []), (17, .invokevirtual 266, 3, [194, 6110, 6113, 1012, 1, 6112, 66]), (20, .ireturn, 1, [])])
def zm_197 : zM := (yX11_stirsRow, cX11_stirsRow, 6, none, 5, 111, [(0, .aload_n 0, 1, []), (1, .iload_n 2, 1, []), (2, .invokevirtual 263, 3, [195, 6114, 6117, 1012, 1, 6116, 67]), (5, .istore_n 3, 1, []), (6, .aload_n 0, 1, []), (7, .invokevirtual 227, 3, [159, 5202, 5205, 1012, 0, 5204, 49]), (10, .iconst 0, 1, []), (11, .istore 4, 2, []), (13, .iload 4, 2, []), (15, .iload_n 2, 1, []), (16, .if_icmp .ge 46, 3, [62]), (19, .iload_n 3, 1, []), (20, .aload_n 0, 1, []), (21, .invokevirtual 260, 3, [193, 6102, 6105, 1012, 0, 6104, 64]), (24, .idiv, 1, []), (25, .istore_n 3, 1, []), (26, .aload_n 0, 1, []), (27, .getfield 44, 3, [11, 26, 5007]), (30, .iload_n 1, 1, []), (31, .iload_n 3, 1, []), (32, .idiv, 1, []), (33, .aload_n 0, 1, []), (34, .invokevirtual 260, 3, [193, 6102, 6105, 1012, 0, 6104, 64]), (37, .irem, 1, []), (38, .iaload, 1, []), (39, .istore 5, 2, []), (41, .aload_n 0, 1, []), (42, .iload 5, 2, []), (44, .bipush 10, 2, []), (46, .idiv, 1, []), (47, .iload 5, 2, []), (49, .bipush 10, 2, []), (51, .irem, 1, []), (52, .invokevirtual 218, 3, [169, 6055, 6058, 1012, 2, 6057, 58]), (55, .pop, 1, []), (56, .iinc 4 1, 3, []), (59, .goto (-46), 3, [13]), (62, .return_, 1, [])])
def zm_198 : zM := (yX11_findPairs, cX11_findPairs, 2, none, 1, 25, [(0, .iconst 0, 1, []), (1, .istore_n 1, 1, []), (2, .iload_n 1, 1, []), (3, .bipush 10, 2, []), (5, .if_icmp .ge 33, 3, [38]), (8, .aload_n 0, 1, []), (9, .getfield 44, 3, [11, 26, 5007]), (12, .iload_n 1, 1, []), (13, .iload_n 1, 1, []), (14, .aload_n 0, 1, []), (15, .invokevirtual 260, 3, [193, 6102, 6105, 1012, 0, 6104, 64]), (18, .if_icmp .ge 11, 3, [29]), (21, .aload_n 0, 1, []), (22, .iload_n 1, 1, []), (23, .invokevirtual 266, 3, [194, 6110, 6113, 1012, 1, 6112, 66]), (26, .goto 5, 3, [31]), (29, .bipush (-4), 2, []), (31, .iastore, 1, []), (32, .iinc 1 1, 3, []), (35, .goto (-33), 3, [2]), (38, .return_, 1, [])])
def ze_199_0 : List zE := [(0, .iload_n 1, 1, []), (1, .i2l, 1, []), (2, .lconst 0, 1, []), (3, .ldc2_w 252, 3, [6075, 4]), (6, .invokestatic 93, 3, [131, 5096, 5098, 1012, 3, 5097]), (9, .ifCond .eq 24, 3, [33]), (12, .iload_n 2, 1, []), (13, .invokestatic 224, 3, [158, 5199, 5201, 1012, 1, 5200]), (16, .ifCond .ne 19, 3, [35]), (19, .iload_n 2, 1, []), (20, .i2l, 1, []), (21, .ldc2_w 269, 3, [6100, 10]), (24, .ldc2_w 271, 3, [6101, 13]), (27, .invokestatic 93, 3, [131, 5096, 5098, 1012, 3, 5097]), (30, .ifCond .ne 5, 3, [35]), (33, .iconst (-1), 1, []), (34, .ireturn, 1, []), (35, .aload_n 0, 1, []), (36, .invokevirtual 260, 3, [193, 6102, 6105, 1012, 0, 6104, 64]), (39, .ifCond .ne 7, 3, [46]), (42, .iconst 0, 1, []), (43, .goto 4, 3, [47]), (46, .iload_n 1, 1, []), (47, .istore_n 3, 1, []), (48, .iconst (-1), 1, []), (49, .istore 4, 2, []), (51, .iconst 0, 1, []), (52, .istore 5, 2, []), (54, .iconst 0, 1, []), (55, .istore 6, 2, []), (57, .aload_n 0, 1, []), (58, .invokevirtual 273, 3, [198, 6106, 6109, 1012, 0, 6108, 65]), (61, .iconst 0, 1, []), (62, .istore 7, 2, []), (64, .iload 7, 2, []), (66, .aload_n 0, 1, []), (67, .iload_n 3, 1, []), (68, .invokevirtual 263, 3, [195, 6114, 6117, 1012, 1, 6116, 67]), (71, .if_icmp .ge 105, 3, [176]), (74, .aload_n 0, 1, [])]
def ze_199_1 : List zE := [(75, .iload 7, 2, []), (77, .iload_n 3, 1, []), (78, .invokevirtual 276, 3, [197, 6118, 6121, 1012, 2, 6120, 68]), (81, .aload_n 0, 1, []), (82, .getfield 13, 3, [11, 1, 4222]), (85, .bipush 33, 2, []), (87, .iaload, 1, []), (88, .iload 4, 2, []), (90, .if_icmp .gt 24, 3, [114]), (93, .aload_n 0, 1, []), (94, .getfield 13, 3, [11, 1, 4222]), (97, .bipush 33, 2, []), (99, .iaload, 1, []), (100, .iload 4, 2, []), (102, .if_icmp .ne 16, 3, [118]), (105, .aload_n 0, 1, []), (106, .invokevirtual 257, 3, [170, 6080, 6083, 1012, 0, 6082, 63]), (109, .iload 5, 2, []), (111, .if_icmp .ge 7, 3, [118]), (114, .iconst 1, 1, []), (115, .goto 4, 3, [119]), (118, .iconst 0, 1, []), (119, .istore 8, 2, []), (121, .iload 8, 2, []), (123, .ifCond .eq 8, 3, [131]), (126, .iload 7, 2, []), (128, .goto 5, 3, [133]), (131, .iload 6, 2, []), (133, .istore 6, 2, []), (135, .iload 8, 2, []), (137, .ifCond .eq 10, 3, [147]), (140, .aload_n 0, 1, []), (141, .invokevirtual 257, 3, [170, 6080, 6083, 1012, 0, 6082, 63]), (144, .goto 5, 3, [149]), (147, .iload 5, 2, []), (149, .istore 5, 2, []), (151, .iload 8, 2, []), (153, .ifCond .eq 13, 3, [166]), (156, .aload_n 0, 1, []), (157, .getfield 13, 3, [11, 1, 4222])]
def ze_199_2 : List zE := [(160, .bipush 33, 2, []), (162, .iaload, 1, []), (163, .goto 5, 3, [168]), (166, .iload 4, 2, []), (168, .istore 4, 2, []), (170, .iinc 7 1, 3, []), (173, .goto (-109), 3, [64]), (176, .iload_n 2, 1, []), (177, .invokestatic 224, 3, [158, 5199, 5201, 1012, 1, 5200]), (180, .ifCond .eq 15, 3, [195]), (183, .iload_n 2, 1, []), (184, .ifCond .ne 8, 3, [192]), (187, .iload 4, 2, []), (189, .goto 5, 3, [194]), (192, .iload 5, 2, []), (194, .ireturn, 1, []), (195, .iload_n 2, 1, []), (196, .bipush 10, 2, []), (198, .isub, 1, []), (199, .iload_n 3, 1, []), (200, .if_icmp .ge 17, 3, [217]), (203, .aload_n 0, 1, []), (204, .iload 6, 2, []), (206, .iload_n 3, 1, []), (207, .iload_n 2, 1, []), (208, .bipush 10, 2, []), (210, .isub, 1, []), (211, .invokevirtual 279, 3, [196, 6122, 6125, 1012, 3, 6124, 69]), (214, .goto 5, 3, [219]), (217, .bipush (-4), 2, []), (219, .ireturn, 1, [])]
def zm_199 : zM := (yX11_best, cX11_best, 9, (some .int), 6, 136, (ze_199_0 ++ (ze_199_1 ++ (ze_199_2))))
def ze_200_0 : List zE := [(0, .iload_n 1, 1, []), (1, .ifCond .eq 19, 3, [20]), (4, .iload_n 1, 1, []), (5, .i2l, 1, []), (6, .ldc2_w 269, 3, [6100, 10]), (9, .ldc2_w 271, 3, [6101, 13]), (12, .invokestatic 93, 3, [131, 5096, 5098, 1012, 3, 5097]), (15, .ifCond .ne 5, 3, [20]), (18, .iconst (-1), 1, []), (19, .ireturn, 1, []), (20, .aload_n 0, 1, []), (21, .invokevirtual 273, 3, [198, 6106, 6109, 1012, 0, 6108, 65]), (24, .iconst 0, 1, []), (25, .istore_n 2, 1, []), (26, .iload_n 2, 1, []), (27, .aload_n 0, 1, []), (28, .invokevirtual 260, 3, [193, 6102, 6105, 1012, 0, 6104, 64]), (31, .ifCond .ne 7, 3, [38]), (34, .iconst 0, 1, []), (35, .goto 4, 3, [39]), (38, .iconst 4, 1, []), (39, .if_icmp .gt 81, 3, [120]), (42, .iconst 0, 1, []), (43, .istore_n 3, 1, []), (44, .iload_n 3, 1, []), (45, .aload_n 0, 1, []), (46, .iload_n 2, 1, []), (47, .invokevirtual 263, 3, [195, 6114, 6117, 1012, 1, 6116, 67]), (50, .if_icmp .ge 64, 3, [114]), (53, .aload_n 0, 1, []), (54, .iload_n 3, 1, []), (55, .iload_n 2, 1, []), (56, .invokevirtual 276, 3, [197, 6118, 6121, 1012, 2, 6120, 68]), (59, .aload_n 0, 1, []), (60, .getfield 13, 3, [11, 1, 4222]), (63, .bipush 33, 2, []), (65, .iaload, 1, []), (66, .aload_n 0, 1, []), (67, .getfield 13, 3, [11, 1, 4222]), (70, .bipush 30, 2, [])]
def ze_200_1 : List zE := [(72, .iaload, 1, []), (73, .if_icmp .lt 35, 3, [108]), (76, .iload_n 1, 1, []), (77, .ifCond .ne 7, 3, [84]), (80, .iload_n 2, 1, []), (81, .goto 26, 3, [107]), (84, .iload_n 1, 1, []), (85, .bipush 10, 2, []), (87, .isub, 1, []), (88, .iload_n 2, 1, []), (89, .if_icmp .ge 16, 3, [105]), (92, .aload_n 0, 1, []), (93, .iload_n 3, 1, []), (94, .iload_n 2, 1, []), (95, .iload_n 1, 1, []), (96, .bipush 10, 2, []), (98, .isub, 1, []), (99, .invokevirtual 279, 3, [196, 6122, 6125, 1012, 3, 6124, 69]), (102, .goto 5, 3, [107]), (105, .bipush (-4), 2, []), (107, .ireturn, 1, []), (108, .iinc 3 1, 3, []), (111, .goto (-67), 3, [44]), (114, .iinc 2 1, 3, []), (117, .goto (-91), 3, [26]), (120, .bipush (-4), 2, []), (122, .ireturn, 1, [])]
def zm_200 : zM := (yX11_few, cX11_few, 4, (some .int), 6, 136, (ze_200_0 ++ (ze_200_1)))
def zm_201 : zM := (yX11_bitsOf, cX11_bitsOf, 3, (some .int), 0, 0, [(0, .iconst 0, 1, []), (1, .istore_n 1, 1, []), (2, .iconst 0, 1, []), (3, .istore_n 2, 1, []), (4, .iload_n 2, 1, []), (5, .bipush 6, 2, []), (7, .if_icmp .ge 17, 3, [24]), (10, .iload_n 1, 1, []), (11, .iload_n 0, 1, []), (12, .iload_n 2, 1, []), (13, .ishr, 1, []), (14, .iconst 1, 1, []), (15, .iand, 1, []), (16, .iadd, 1, []), (17, .istore_n 1, 1, []), (18, .iinc 2 1, 3, []), (21, .goto (-17), 3, [4]), (24, .iload_n 1, 1, []), (25, .ireturn, 1, [])])
def ze_202_0 : List zE := [(0, .iload_n 1, 1, []), (1, .invokestatic 224, 3, [158, 5199, 5201, 1012, 1, 5200]), (4, .ifCond .ne 5, 3, [9]), (7, .iconst (-1), 1, []), (8, .ireturn, 1, []), (9, .ldc_w 283, 3, [6134, 1000000]), (12, .istore_n 2, 1, []), (13, .bipush (-4), 2, []), (15, .istore_n 3, 1, []), (16, .iconst 0, 1, []), (17, .istore 4, 2, []), (19, .iload 4, 2, []), (21, .iconst 1, 1, []), (22, .aload_n 0, 1, []), (23, .getfield 88, 3, [11, 4, 4225]), (26, .ishl, 1, []), (27, .if_icmp .ge 125, 3, [152]), (30, .iload 4, 2, []), (32, .aload_n 0, 1, []), (33, .getfield 7, 3, [11, 0, 4221]), (36, .bipush 35, 2, []), (38, .iaload, 1, []), (39, .iand, 1, []), (40, .ifCond .ne 106, 3, [146]), (43, .iload 4, 2, []), (45, .invokestatic 284, 3, [201, 6135, 6137, 1012, 1, 6136]), (48, .iload_n 2, 1, []), (49, .if_icmp .ge 97, 3, [146]), (52, .aload_n 0, 1, []), (53, .invokevirtual 227, 3, [159, 5202, 5205, 1012, 0, 5204, 49]), (56, .iconst 0, 1, []), (57, .istore 5, 2, []), (59, .iload 5, 2, []), (61, .aload_n 0, 1, []), (62, .getfield 88, 3, [11, 4, 4225]), (65, .if_icmp .ge 26, 3, [91]), (68, .iload 4, 2, []), (70, .iload 5, 2, []), (72, .ishr, 1, []), (73, .iconst 1, 1, [])]
def ze_202_1 : List zE := [(74, .iand, 1, []), (75, .iconst 1, 1, []), (76, .if_icmp .ne 9, 3, [85]), (79, .aload_n 0, 1, []), (80, .iload 5, 2, []), (82, .invokevirtual 238, 3, [179, 5239, 6002, 1012, 1, 6001, 54]), (85, .iinc 5 1, 3, []), (88, .goto (-29), 3, [59]), (91, .aload_n 0, 1, []), (92, .invokevirtual 254, 3, [171, 6076, 6079, 1012, 0, 6078, 62]), (95, .aload_n 0, 1, []), (96, .getfield 13, 3, [11, 1, 4222]), (99, .bipush 33, 2, []), (101, .iaload, 1, []), (102, .aload_n 0, 1, []), (103, .getfield 13, 3, [11, 1, 4222]), (106, .bipush 30, 2, []), (108, .iaload, 1, []), (109, .if_icmp .lt 7, 3, [116]), (112, .iconst 1, 1, []), (113, .goto 4, 3, [117]), (116, .iconst 0, 1, []), (117, .istore 5, 2, []), (119, .iload 5, 2, []), (121, .ifCond .eq 8, 3, [129]), (124, .iload 4, 2, []), (126, .goto 4, 3, [130]), (129, .iload_n 3, 1, []), (130, .istore_n 3, 1, []), (131, .iload 5, 2, []), (133, .ifCond .eq 11, 3, [144]), (136, .iload 4, 2, []), (138, .invokestatic 284, 3, [201, 6135, 6137, 1012, 1, 6136]), (141, .goto 4, 3, [145]), (144, .iload_n 2, 1, []), (145, .istore_n 2, 1, []), (146, .iinc 4 1, 3, []), (149, .goto (-130), 3, [19]), (152, .iload_n 3, 1, []), (153, .bipush (-4), 2, [])]
def ze_202_2 : List zE := [(155, .if_icmp .ne 8, 3, [163]), (158, .bipush (-4), 2, []), (160, .goto 12, 3, [172]), (163, .iload_n 1, 1, []), (164, .ifCond .ne 7, 3, [171]), (167, .iload_n 2, 1, []), (168, .goto 4, 3, [172]), (171, .iload_n 3, 1, []), (172, .ireturn, 1, [])]
def zm_202 : zM := (yX11_slips, cX11_slips, 6, (some .int), 6, 133, (ze_202_0 ++ (ze_202_1 ++ (ze_202_2))))
def ze_203_0 : List zE := [(0, .aload_n 0, 1, []), (1, .iload_n 1, 1, []), (2, .invokevirtual 184, 3, [155, 5187, 5190, 1012, 1, 5189, 47]), (5, .ifCond .ne 5, 3, [10]), (8, .iconst (-1), 1, []), (9, .ireturn, 1, []), (10, .iconst (-1), 1, []), (11, .istore_n 2, 1, []), (12, .bipush (-4), 2, []), (14, .istore_n 3, 1, []), (15, .aload_n 0, 1, []), (16, .invokevirtual 227, 3, [159, 5202, 5205, 1012, 0, 5204, 49]), (19, .iconst 0, 1, []), (20, .istore 4, 2, []), (22, .iload 4, 2, []), (24, .aload_n 0, 1, []), (25, .getfield 85, 3, [11, 3, 4224]), (28, .if_icmp .ge 54, 3, [82]), (31, .iload 4, 2, []), (33, .iload_n 1, 1, []), (34, .if_icmp .ne 7, 3, [41]), (37, .iconst (-1), 1, []), (38, .goto 10, 3, [48]), (41, .aload_n 0, 1, []), (42, .iload_n 1, 1, []), (43, .iload 4, 2, []), (45, .invokevirtual 204, 3, [165, 6044, 6047, 1012, 2, 6046, 57]), (48, .istore 5, 2, []), (50, .iload 5, 2, []), (52, .iload_n 2, 1, []), (53, .if_icmp .le 8, 3, [61]), (56, .iload 4, 2, []), (58, .goto 4, 3, [62]), (61, .iload_n 3, 1, []), (62, .istore_n 3, 1, []), (63, .iload 5, 2, []), (65, .iload_n 2, 1, []), (66, .if_icmp .le 8, 3, [74]), (69, .iload 5, 2, []), (71, .goto 4, 3, [75])]
def ze_203_1 : List zE := [(74, .iload_n 2, 1, []), (75, .istore_n 2, 1, []), (76, .iinc 4 1, 3, []), (79, .goto (-57), 3, [22]), (82, .iload_n 3, 1, []), (83, .ireturn, 1, [])]
def zm_203 : zM := (yX11_mate, cX11_mate, 6, (some .int), 3, 67, (ze_203_0 ++ (ze_203_1)))
def zm_204 : zM := (yX11_codes, cX11_codes, 3, (some .int), 0, 0, [(0, .iconst 1, 1, []), (1, .istore_n 1, 1, []), (2, .iconst 0, 1, []), (3, .istore_n 2, 1, []), (4, .iload_n 2, 1, []), (5, .aload_n 0, 1, []), (6, .getfield 85, 3, [11, 3, 4224]), (9, .if_icmp .ge 14, 3, [23]), (12, .iload_n 1, 1, []), (13, .bipush 6, 2, []), (15, .imul, 1, []), (16, .istore_n 1, 1, []), (17, .iinc 2 1, 3, []), (20, .goto (-16), 3, [4]), (23, .iload_n 1, 1, []), (24, .ireturn, 1, [])])
def ze_205_0 : List zE := [(0, .iload_n 1, 1, []), (1, .istore_n 2, 1, []), (2, .iconst 1, 1, []), (3, .istore_n 3, 1, []), (4, .aload_n 0, 1, []), (5, .getfield 85, 3, [11, 3, 4224]), (8, .iconst 1, 1, []), (9, .isub, 1, []), (10, .istore 4, 2, []), (12, .iload 4, 2, []), (14, .ifCond .lt 27, 3, [41]), (17, .aload_n 0, 1, []), (18, .getfield 47, 3, [11, 27, 5008]), (21, .iload 4, 2, []), (23, .iload_n 2, 1, []), (24, .bipush 6, 2, []), (26, .irem, 1, []), (27, .iconst 1, 1, []), (28, .isub, 1, []), (29, .iastore, 1, []), (30, .iload_n 2, 1, []), (31, .bipush 6, 2, []), (33, .idiv, 1, []), (34, .istore_n 2, 1, []), (35, .iinc 4 (-1), 3, []), (38, .goto (-26), 3, [12]), (41, .iconst 0, 1, []), (42, .istore 4, 2, []), (44, .iload 4, 2, []), (46, .aload_n 0, 1, []), (47, .getfield 85, 3, [11, 3, 4224]), (50, .if_icmp .ge 72, 3, [122]), (53, .iload_n 3, 1, []), (54, .ifCond .eq 60, 3, [114]), (57, .aload_n 0, 1, []), (58, .getfield 47, 3, [11, 27, 5008]), (61, .iload 4, 2, []), (63, .iaload, 1, []), (64, .ifCond .lt 46, 3, [110]), (67, .aload_n 0, 1, [])]
def ze_205_1 : List zE := [(68, .getfield 47, 3, [11, 27, 5008]), (71, .iload 4, 2, []), (73, .iaload, 1, []), (74, .aload_n 0, 1, []), (75, .getfield 85, 3, [11, 3, 4224]), (78, .if_icmp .ge 36, 3, [114]), (81, .aload_n 0, 1, []), (82, .getfield 47, 3, [11, 27, 5008]), (85, .iload 4, 2, []), (87, .iaload, 1, []), (88, .iload 4, 2, []), (90, .if_icmp .eq 24, 3, [114]), (93, .aload_n 0, 1, []), (94, .getfield 47, 3, [11, 27, 5008]), (97, .aload_n 0, 1, []), (98, .getfield 47, 3, [11, 27, 5008]), (101, .iload 4, 2, []), (103, .iaload, 1, []), (104, .iaload, 1, []), (105, .iload 4, 2, []), (107, .if_icmp .ne 7, 3, [114]), (110, .iconst 1, 1, []), (111, .goto 4, 3, [115]), (114, .iconst 0, 1, []), (115, .istore_n 3, 1, []), (116, .iinc 4 1, 3, []), (119, .goto (-75), 3, [44]), (122, .iload_n 3, 1, []), (123, .ireturn, 1, [])]
def zm_205 : zM := (yX11_isMatch, cX11_isMatch, 5, (some .boolean), 0, 0, (ze_205_0 ++ (ze_205_1)))
def zm_206 : zM := (yX11_turnsNow, cX11_turnsNow, 3, (some .int), 3, 67, [(0, .iconst 0, 1, []), (1, .istore_n 1, 1, []), (2, .iconst 0, 1, []), (3, .istore_n 2, 1, []), (4, .iload_n 2, 1, []), (5, .aload_n 0, 1, []), (6, .getfield 85, 3, [11, 3, 4224]), (9, .if_icmp .ge 37, 3, [46]), (12, .iload_n 1, 1, []), (13, .aload_n 0, 1, []), (14, .getfield 47, 3, [11, 27, 5008]), (17, .iload_n 2, 1, []), (18, .iaload, 1, []), (19, .iload_n 2, 1, []), (20, .if_icmp .le 17, 3, [37]), (23, .aload_n 0, 1, []), (24, .iload_n 2, 1, []), (25, .aload_n 0, 1, []), (26, .getfield 47, 3, [11, 27, 5008]), (29, .iload_n 2, 1, []), (30, .iaload, 1, []), (31, .invokevirtual 204, 3, [165, 6044, 6047, 1012, 2, 6046, 57]), (34, .goto 4, 3, [38]), (37, .iconst 0, 1, []), (38, .iadd, 1, []), (39, .istore_n 1, 1, []), (40, .iinc 2 1, 3, []), (43, .goto (-39), 3, [4]), (46, .iload_n 1, 1, []), (47, .ireturn, 1, [])])
def ze_207_0 : List zE := [(0, .iload_n 1, 1, []), (1, .ifCond .eq 16, 3, [17]), (4, .aload_n 0, 1, []), (5, .iload_n 1, 1, []), (6, .bipush 10, 2, []), (8, .isub, 1, []), (9, .invokevirtual 184, 3, [155, 5187, 5190, 1012, 1, 5189, 47]), (12, .ifCond .ne 5, 3, [17]), (15, .iconst (-1), 1, []), (16, .ireturn, 1, []), (17, .iconst (-1), 1, []), (18, .istore_n 2, 1, []), (19, .iconst 0, 1, []), (20, .istore_n 3, 1, []), (21, .aload_n 0, 1, []), (22, .invokevirtual 227, 3, [159, 5202, 5205, 1012, 0, 5204, 49]), (25, .iconst 0, 1, []), (26, .istore 4, 2, []), (28, .iload 4, 2, []), (30, .aload_n 0, 1, []), (31, .invokevirtual 287, 3, [204, 6146, 6149, 1012, 0, 6148, 70]), (34, .if_icmp .ge 54, 3, [88]), (37, .aload_n 0, 1, []), (38, .iload 4, 2, []), (40, .invokevirtual 290, 3, [205, 6150, 6153, 1012, 1, 6152, 71]), (43, .ifCond .eq 10, 3, [53]), (46, .aload_n 0, 1, []), (47, .invokevirtual 293, 3, [206, 6154, 6157, 1012, 0, 6156, 72]), (50, .goto 4, 3, [54]), (53, .iconst (-1), 1, []), (54, .istore 5, 2, []), (56, .iload 5, 2, []), (58, .iload_n 2, 1, []), (59, .if_icmp .le 8, 3, [67]), (62, .iload 4, 2, []), (64, .goto 4, 3, [68]), (67, .iload_n 3, 1, []), (68, .istore_n 3, 1, []), (69, .iload 5, 2, []), (71, .iload_n 2, 1, [])]
def ze_207_1 : List zE := [(72, .if_icmp .le 8, 3, [80]), (75, .iload 5, 2, []), (77, .goto 4, 3, [81]), (80, .iload_n 2, 1, []), (81, .istore_n 2, 1, []), (82, .iinc 4 1, 3, []), (85, .goto (-57), 3, [28]), (88, .aload_n 0, 1, []), (89, .iload_n 3, 1, []), (90, .invokevirtual 290, 3, [205, 6150, 6153, 1012, 1, 6152, 71]), (93, .pop, 1, []), (94, .iload_n 1, 1, []), (95, .ifCond .ne 7, 3, [102]), (98, .iload_n 2, 1, []), (99, .goto 29, 3, [128]), (102, .aload_n 0, 1, []), (103, .getfield 47, 3, [11, 27, 5008]), (106, .iload_n 1, 1, []), (107, .bipush 10, 2, []), (109, .isub, 1, []), (110, .iaload, 1, []), (111, .ifCond .ge 8, 3, [119]), (114, .bipush (-4), 2, []), (116, .goto 12, 3, [128]), (119, .aload_n 0, 1, []), (120, .getfield 47, 3, [11, 27, 5008]), (123, .iload_n 1, 1, []), (124, .bipush 10, 2, []), (126, .isub, 1, []), (127, .iaload, 1, []), (128, .ireturn, 1, [])]
def zm_207 : zM := (yX11_match, cX11_match, 6, (some .int), 4, 89, (ze_207_0 ++ (ze_207_1)))
def ze_208_0 : List zE := [(0, .iload_n 1, 1, []), (1, .i2l, 1, []), (2, .lconst 0, 1, []), (3, .ldc2_w 233, 3, [5230, 9]), (6, .invokestatic 93, 3, [131, 5096, 5098, 1012, 3, 5097]), (9, .ifCond .eq 15, 3, [24]), (12, .iload_n 2, 1, []), (13, .i2l, 1, []), (14, .lconst 0, 1, []), (15, .ldc2_w 296, 3, [6162, 18]), (18, .invokestatic 93, 3, [131, 5096, 5098, 1012, 3, 5097]), (21, .ifCond .ne 5, 3, [26]), (24, .iconst (-1), 1, []), (25, .ireturn, 1, []), (26, .aload_n 0, 1, []), (27, .getfield 7, 3, [11, 0, 4221]), (30, .bipush 45, 2, []), (32, .iaload, 1, []), (33, .bipush 6, 2, []), (35, .if_icmp .ne 6, 3, [41]), (38, .bipush (-3), 2, []), (40, .ireturn, 1, []), (41, .aload_n 0, 1, []), (42, .getfield 7, 3, [11, 0, 4221]), (45, .bipush 46, 2, []), (47, .iconst 2, 1, []), (48, .aload_n 0, 1, []), (49, .getfield 7, 3, [11, 0, 4221]), (52, .bipush 45, 2, []), (54, .iaload, 1, []), (55, .imul, 1, []), (56, .iadd, 1, []), (57, .iload_n 1, 1, []), (58, .iastore, 1, []), (59, .aload_n 0, 1, []), (60, .getfield 7, 3, [11, 0, 4221]), (63, .bipush 46, 2, []), (65, .iconst 2, 1, []), (66, .aload_n 0, 1, []), (67, .getfield 7, 3, [11, 0, 4221])]
def ze_208_1 : List zE := [(70, .bipush 45, 2, []), (72, .iaload, 1, []), (73, .imul, 1, []), (74, .iadd, 1, []), (75, .iconst 1, 1, []), (76, .iadd, 1, []), (77, .iload_n 2, 1, []), (78, .iastore, 1, []), (79, .aload_n 0, 1, []), (80, .getfield 7, 3, [11, 0, 4221]), (83, .bipush 45, 2, []), (85, .dup2, 1, []), (86, .iaload, 1, []), (87, .iconst 1, 1, []), (88, .iadd, 1, []), (89, .iastore, 1, []), (90, .aload_n 0, 1, []), (91, .getfield 7, 3, [11, 0, 4221]), (94, .bipush 45, 2, []), (96, .iaload, 1, []), (97, .ireturn, 1, [])]
def zm_208 : zM := (yX11_see, cX11_see, 3, (some .int), 1, 25, (ze_208_0 ++ (ze_208_1)))
def zm_209 : zM := (yX11_forget, cX11_forget, 2, (some .int), 1, 25, [(0, .iload_n 1, 1, []), (1, .i2l, 1, []), (2, .lconst 0, 1, []), (3, .aload_n 0, 1, []), (4, .getfield 7, 3, [11, 0, 4221]), (7, .bipush 45, 2, []), (9, .iaload, 1, []), (10, .i2l, 1, []), (11, .invokestatic 93, 3, [131, 5096, 5098, 1012, 3, 5097]), (14, .ifCond .eq 13, 3, [27]), (17, .aload_n 0, 1, []), (18, .bipush 45, 2, []), (20, .iload_n 1, 1, []), (21, .invokevirtual 235, 3, [177, 5231, 5234, 1012, 2, 5233, 53]), (24, .goto 4, 3, [28]), (27, .iconst (-1), 1, []), (28, .ireturn, 1, [])])
def ze_210_0 : List zE := [(0, .iconst 1, 1, []), (1, .istore 5, 2, []), (3, .aload_n 0, 1, []), (4, .invokevirtual 227, 3, [159, 5202, 5205, 1012, 0, 5204, 49]), (7, .aload_n 0, 1, []), (8, .iload_n 1, 1, []), (9, .iload_n 2, 1, []), (10, .iload_n 3, 1, []), (11, .invokevirtual 200, 3, [162, 6003, 6006, 1012, 3, 6005, 55]), (14, .aload_n 0, 1, []), (15, .iload_n 2, 1, []), (16, .iload_n 1, 1, []), (17, .iload 4, 2, []), (19, .invokevirtual 200, 3, [162, 6003, 6006, 1012, 3, 6005, 55]), (22, .iconst 0, 1, []), (23, .istore 6, 2, []), (25, .iload 6, 2, []), (27, .bipush 9, 2, []), (29, .if_icmp .gt 89, 3, [118]), (32, .iconst 0, 1, []), (33, .istore 7, 2, []), (35, .iload 7, 2, []), (37, .aload_n 0, 1, []), (38, .getfield 7, 3, [11, 0, 4221]), (41, .bipush 45, 2, []), (43, .iaload, 1, []), (44, .if_icmp .ge 61, 3, [105]), (47, .iload 5, 2, []), (49, .ifCond .eq 47, 3, [96]), (52, .aload_n 0, 1, []), (53, .getfield 7, 3, [11, 0, 4221]), (56, .bipush 46, 2, []), (58, .iconst 2, 1, []), (59, .iload 7, 2, []), (61, .imul, 1, []), (62, .iadd, 1, []), (63, .iaload, 1, []), (64, .iload 6, 2, []), (66, .if_icmp .ne 26, 3, [92]), (69, .aload_n 0, 1, [])]
def ze_210_1 : List zE := [(70, .iload_n 1, 1, []), (71, .iload_n 2, 1, []), (72, .invokevirtual 204, 3, [165, 6044, 6047, 1012, 2, 6046, 57]), (75, .aload_n 0, 1, []), (76, .getfield 7, 3, [11, 0, 4221]), (79, .bipush 46, 2, []), (81, .iconst 2, 1, []), (82, .iload 7, 2, []), (84, .imul, 1, []), (85, .iadd, 1, []), (86, .iconst 1, 1, []), (87, .iadd, 1, []), (88, .iaload, 1, []), (89, .if_icmp .ne 7, 3, [96]), (92, .iconst 1, 1, []), (93, .goto 4, 3, [97]), (96, .iconst 0, 1, []), (97, .istore 5, 2, []), (99, .iinc 7 1, 3, []), (102, .goto (-67), 3, [35]), (105, .aload_n 0, 1, []), (106, .iload_n 1, 1, []), (107, .iload_n 2, 1, []), (108, .invokevirtual 211, 3, [168, 6059, 6062, 1012, 2, 6061, 59]), (111, .pop, 1, []), (112, .iinc 6 1, 3, []), (115, .goto (-90), 3, [25]), (118, .iload 5, 2, []), (120, .ireturn, 1, [])]
def zm_210 : zM := (yX11_isSo, cX11_isSo, 8, (some .boolean), 4, 89, (ze_210_0 ++ (ze_210_1)))
def ze_211_0 : List zE := [(0, .aload_n 0, 1, []), (1, .iload_n 1, 1, []), (2, .iload_n 2, 1, []), (3, .invokevirtual 221, 3, [156, 5195, 5198, 1012, 2, 5197, 48]), (6, .ifCond .eq 15, 3, [21]), (9, .iload_n 3, 1, []), (10, .i2l, 1, []), (11, .lconst 0, 1, []), (12, .ldc2_w 298, 3, [6171, 2]), (15, .invokestatic 93, 3, [131, 5096, 5098, 1012, 3, 5097]), (18, .ifCond .ne 5, 3, [23]), (21, .iconst (-1), 1, []), (22, .ireturn, 1, []), (23, .iconst 0, 1, []), (24, .istore 4, 2, []), (26, .bipush (-4), 2, []), (28, .istore 5, 2, []), (30, .bipush (-4), 2, []), (32, .istore 6, 2, []), (34, .iconst 0, 1, []), (35, .istore 7, 2, []), (37, .iload 7, 2, []), (39, .bipush 100, 2, []), (41, .if_icmp .ge 49, 3, [90]), (44, .aload_n 0, 1, []), (45, .iload_n 1, 1, []), (46, .iload_n 2, 1, []), (47, .iload 7, 2, []), (49, .bipush 10, 2, []), (51, .idiv, 1, []), (52, .iload 7, 2, []), (54, .bipush 10, 2, []), (56, .irem, 1, []), (57, .invokevirtual 300, 3, [210, 6172, 6175, 1012, 4, 6174, 73]), (60, .ifCond .eq 24, 3, [84]), (63, .iload 4, 2, []), (65, .ifCond .ne 8, 3, [73]), (68, .iload 7, 2, []), (70, .goto 5, 3, [75]), (73, .iload 5, 2, [])]
def ze_211_1 : List zE := [(75, .istore 5, 2, []), (77, .iload 7, 2, []), (79, .istore 6, 2, []), (81, .iinc 4 1, 3, []), (84, .iinc 7 1, 3, []), (87, .goto (-50), 3, [37]), (90, .iload_n 3, 1, []), (91, .ifCond .ne 8, 3, [99]), (94, .iload 4, 2, []), (96, .goto 15, 3, [111]), (99, .iload_n 3, 1, []), (100, .iconst 1, 1, []), (101, .if_icmp .ne 8, 3, [109]), (104, .iload 5, 2, []), (106, .goto 5, 3, [111]), (109, .iload 6, 2, []), (111, .ireturn, 1, [])]
def zm_211 : zM := (yX11_fits, cX11_fits, 8, (some .int), 5, 116, (ze_211_0 ++ (ze_211_1)))
def ze_212_0 : List zE := [(0, .iload_n 1, 1, []), (1, .i2l, 1, []), (2, .lconst 0, 1, []), (3, .ldc2_w 303, 3, [6180, 999]), (6, .invokestatic 93, 3, [131, 5096, 5098, 1012, 3, 5097]), (9, .ifCond .ne 5, 3, [14]), (12, .iconst (-1), 1, []), (13, .ireturn, 1, []), (14, .iconst 0, 1, []), (15, .istore_n 2, 1, []), (16, .iconst 0, 1, []), (17, .istore_n 3, 1, []), (18, .iload_n 3, 1, []), (19, .aload_n 0, 1, []), (20, .getfield 85, 3, [11, 3, 4224]), (23, .if_icmp .ge 67, 3, [90]), (26, .aload_n 0, 1, []), (27, .invokevirtual 227, 3, [159, 5202, 5205, 1012, 0, 5204, 49]), (30, .iconst 0, 1, []), (31, .istore 4, 2, []), (33, .iload 4, 2, []), (35, .aload_n 0, 1, []), (36, .getfield 85, 3, [11, 3, 4224]), (39, .if_icmp .ge 17, 3, [56]), (42, .aload_n 0, 1, []), (43, .iload_n 3, 1, []), (44, .iload 4, 2, []), (46, .iconst 0, 1, []), (47, .invokevirtual 200, 3, [162, 6003, 6006, 1012, 3, 6005, 55]), (50, .iinc 4 1, 3, []), (53, .goto (-20), 3, [33]), (56, .aload_n 0, 1, []), (57, .invokevirtual 254, 3, [171, 6076, 6079, 1012, 0, 6078, 62]), (60, .iload_n 2, 1, []), (61, .aload_n 0, 1, []), (62, .getfield 13, 3, [11, 1, 4222]), (65, .bipush 33, 2, []), (67, .iaload, 1, []), (68, .iload_n 1, 1, []), (69, .if_icmp .ne 7, 3, [76])]
def ze_212_1 : List zE := [(72, .iconst 1, 1, []), (73, .goto 4, 3, [77]), (76, .iconst 0, 1, []), (77, .invokestatic 244, 3, [132, 6019, 6021, 1012, 1, 6020]), (80, .iload_n 3, 1, []), (81, .ishl, 1, []), (82, .ior, 1, []), (83, .istore_n 2, 1, []), (84, .iinc 3 1, 3, []), (87, .goto (-69), 3, [18]), (90, .iload_n 2, 1, []), (91, .ireturn, 1, [])]
def zm_212 : zM := (yX11_forgave, cX11_forgave, 5, (some .int), 6, 133, (ze_212_0 ++ (ze_212_1)))
def zm_213 : zM := (yX11_common, cX11_common, 10, (some .long), 0, 0, [(0, .lload_n 0, 1, []), (1, .lstore 4, 2, []), (3, .lload_n 2, 1, []), (4, .lstore 6, 2, []), (6, .lload 6, 2, []), (8, .lconst 0, 1, []), (9, .lcmp, 1, []), (10, .ifCond .eq 21, 3, [31]), (13, .lload 4, 2, []), (15, .lload 6, 2, []), (17, .lrem, 1, []), (18, .lstore 8, 2, []), (20, .lload 6, 2, []), (22, .lstore 4, 2, []), (24, .lload 8, 2, []), (26, .lstore 6, 2, []), (28, .goto (-22), 3, [6]), (31, .lload 4, 2, []), (33, .lreturn, 1, [])])
def zm_214 : zM := (yX11_told, cX11_told, 7, (some .long), 1, 29, [(0, .lload_n 2, 1, []), (1, .lload_n 0, 1, []), (2, .invokestatic 305, 3, [213, 6197, 6199, 1012, 2, 6198]), (5, .lstore 5, 2, []), (7, .iload 4, 2, []), (9, .ifCond .ne 10, 3, [19]), (12, .lload_n 0, 1, []), (13, .lload 5, 2, []), (15, .ldiv, 1, []), (16, .goto 7, 3, [23]), (19, .lload_n 2, 1, []), (20, .lload 5, 2, []), (22, .ldiv, 1, []), (23, .lreturn, 1, [])])
def zm_215 : zM := (yX11_adds, cX11_adds, 3, none, 0, 0, [(0, .aload_n 0, 1, []), (1, .dup, 1, []), (2, .getfield 309, 3, [11, 29, 5010]), (5, .lload_n 1, 1, []), (6, .aload_n 0, 1, []), (7, .getfield 13, 3, [11, 1, 4222]), (10, .bipush 33, 2, []), (12, .iaload, 1, []), (13, .i2l, 1, []), (14, .lmul, 1, []), (15, .ladd, 1, []), (16, .putfield 309, 3, [11, 29, 5010]), (19, .aload_n 0, 1, []), (20, .dup, 1, []), (21, .getfield 313, 3, [11, 30, 5011]), (24, .aload_n 0, 1, []), (25, .getfield 13, 3, [11, 1, 4222]), (28, .bipush 33, 2, []), (30, .iaload, 1, []), (31, .aload_n 0, 1, []), (32, .getfield 13, 3, [11, 1, 4222]), (35, .bipush 30, 2, []), (37, .iaload, 1, []), (38, .if_icmp .lt 7, 3, [45]), (41, .lload_n 1, 1, []), (42, .goto 4, 3, [46]), (45, .lconst 0, 1, []), (46, .ladd, 1, []), (47, .putfield 313, 3, [11, 30, 5011]), (50, .return_, 1, [])])
def ze_216_0 : List zE := [(0, .aload_n 0, 1, []), (1, .invokevirtual 227, 3, [159, 5202, 5205, 1012, 0, 5204, 49]), (4, .aload_n 0, 1, []), (5, .getfield 13, 3, [11, 1, 4222]), (8, .bipush 34, 2, []), (10, .iaload, 1, []), (11, .iconst 1, 1, []), (12, .if_icmp .ne 7, 3, [19]), (15, .iconst 0, 1, []), (16, .goto 18, 3, [34]), (19, .aload_n 0, 1, []), (20, .getfield 13, 3, [11, 1, 4222]), (23, .bipush 31, 2, []), (25, .iaload, 1, []), (26, .aload_n 0, 1, []), (27, .getfield 13, 3, [11, 1, 4222]), (30, .bipush 32, 2, []), (32, .iaload, 1, []), (33, .isub, 1, []), (34, .istore 4, 2, []), (36, .lconst 1, 1, []), (37, .lstore 5, 2, []), (39, .aload_n 0, 1, []), (40, .lconst 1, 1, []), (41, .putfield 316, 3, [11, 28, 5009]), (44, .aload_n 0, 1, []), (45, .lconst 0, 1, []), (46, .putfield 309, 3, [11, 29, 5010]), (49, .aload_n 0, 1, []), (50, .lconst 0, 1, []), (51, .putfield 313, 3, [11, 30, 5011]), (54, .iconst 0, 1, []), (55, .istore 7, 2, []), (57, .iload 7, 2, []), (59, .iload 4, 2, []), (61, .if_icmp .ge 21, 3, [82]), (64, .aload_n 0, 1, []), (65, .dup, 1, []), (66, .getfield 316, 3, [11, 28, 5009]), (69, .ldc2_w 269, 3, [6100, 10])]
def ze_216_1 : List zE := [(72, .lmul, 1, []), (73, .putfield 316, 3, [11, 28, 5009]), (76, .iinc 7 1, 3, []), (79, .goto (-22), 3, [57]), (82, .aload_n 0, 1, []), (83, .getfield 316, 3, [11, 28, 5009]), (86, .lstore 7, 2, []), (88, .iconst 0, 1, []), (89, .istore 9, 2, []), (91, .iload 9, 2, []), (93, .iload 4, 2, []), (95, .if_icmp .ge 56, 3, [151]), (98, .aload_n 0, 1, []), (99, .getfield 13, 3, [11, 1, 4222]), (102, .bipush 34, 2, []), (104, .iaload, 1, []), (105, .ifCond .ne 46, 3, [151]), (108, .lload 7, 2, []), (110, .ldc2_w 269, 3, [6100, 10]), (113, .ldiv, 1, []), (114, .lstore 7, 2, []), (116, .aload_n 0, 1, []), (117, .lload 5, 2, []), (119, .iload_n 1, 1, []), (120, .i2l, 1, []), (121, .lmul, 1, []), (122, .lload 7, 2, []), (124, .lmul, 1, []), (125, .invokevirtual 319, 3, [215, 6190, 6193, 1012, 1, 6192, 75]), (128, .lload 5, 2, []), (130, .bipush 10, 2, []), (132, .iload_n 1, 1, []), (133, .isub, 1, []), (134, .i2l, 1, []), (135, .lmul, 1, []), (136, .lstore 5, 2, []), (138, .aload_n 0, 1, []), (139, .iload_n 2, 1, []), (140, .iload_n 3, 1, []), (141, .invokevirtual 218, 3, [169, 6055, 6058, 1012, 2, 6057, 58])]
def ze_216_2 : List zE := [(144, .pop, 1, []), (145, .iinc 9 1, 3, []), (148, .goto (-57), 3, [91]), (151, .aload_n 0, 1, []), (152, .lload 5, 2, []), (154, .lload 7, 2, []), (156, .lmul, 1, []), (157, .invokevirtual 319, 3, [215, 6190, 6193, 1012, 1, 6192, 75]), (160, .return_, 1, [])]
def zm_216 : zM := (yX11_findLove, cX11_findLove, 10, none, 5, 111, (ze_216_0 ++ (ze_216_1 ++ (ze_216_2))))
def zm_217 : zM := (yX11_luck, cX11_luck, 5, (some .long), 6, 140, [(0, .iload_n 1, 1, []), (1, .i2l, 1, []), (2, .lconst 0, 1, []), (3, .ldc2_w 269, 3, [6100, 10]), (6, .invokestatic 93, 3, [131, 5096, 5098, 1012, 3, 5097]), (9, .ifCond .eq 20, 3, [29]), (12, .aload_n 0, 1, []), (13, .iload_n 2, 1, []), (14, .iload_n 3, 1, []), (15, .invokevirtual 221, 3, [156, 5195, 5198, 1012, 2, 5197, 48]), (18, .ifCond .eq 11, 3, [29]), (21, .iload 4, 2, []), (23, .invokestatic 224, 3, [158, 5199, 5201, 1012, 1, 5200]), (26, .ifCond .ne 7, 3, [33]), (29, .ldc2_w 323, 3, [6185, 18446744073709551615]), (32, .lreturn, 1, []), (33, .aload_n 0, 1, []), (34, .iload_n 1, 1, []), (35, .iload_n 2, 1, []), (36, .iload_n 3, 1, []), (37, .invokevirtual 325, 3, [216, 6186, 6189, 1012, 3, 6188, 74]), (40, .aload_n 0, 1, []), (41, .getfield 313, 3, [11, 30, 5011]), (44, .aload_n 0, 1, []), (45, .getfield 316, 3, [11, 28, 5009]), (48, .iload 4, 2, []), (50, .invokestatic 328, 3, [214, 6194, 6196, 1012, 3, 6195]), (53, .lreturn, 1, [])])
def zm_218 : zM := (yX11_mean, cX11_mean, 5, (some .long), 6, 140, [(0, .iload_n 1, 1, []), (1, .i2l, 1, []), (2, .lconst 0, 1, []), (3, .ldc2_w 269, 3, [6100, 10]), (6, .invokestatic 93, 3, [131, 5096, 5098, 1012, 3, 5097]), (9, .ifCond .eq 20, 3, [29]), (12, .aload_n 0, 1, []), (13, .iload_n 2, 1, []), (14, .iload_n 3, 1, []), (15, .invokevirtual 221, 3, [156, 5195, 5198, 1012, 2, 5197, 48]), (18, .ifCond .eq 11, 3, [29]), (21, .iload 4, 2, []), (23, .invokestatic 224, 3, [158, 5199, 5201, 1012, 1, 5200]), (26, .ifCond .ne 7, 3, [33]), (29, .ldc2_w 323, 3, [6185, 18446744073709551615]), (32, .lreturn, 1, []), (33, .aload_n 0, 1, []), (34, .iload_n 1, 1, []), (35, .iload_n 2, 1, []), (36, .iload_n 3, 1, []), (37, .invokevirtual 325, 3, [216, 6186, 6189, 1012, 3, 6188, 74]), (40, .aload_n 0, 1, []), (41, .getfield 309, 3, [11, 29, 5010]), (44, .aload_n 0, 1, []), (45, .getfield 316, 3, [11, 28, 5009]), (48, .iload 4, 2, []), (50, .invokestatic 328, 3, [214, 6194, 6196, 1012, 3, 6195]), (53, .lreturn, 1, [])])
def ze_219_0 : List zE := [(0, .iload_n 2, 1, []), (1, .i2l, 1, []), (2, .lconst 1, 1, []), (3, .ldc2_w 332, 3, [6208, 60]), (6, .invokestatic 93, 3, [131, 5096, 5098, 1012, 3, 5097]), (9, .ifCond .eq 10, 3, [19]), (12, .iload_n 3, 1, []), (13, .invokestatic 224, 3, [158, 5199, 5201, 1012, 1, 5200]), (16, .ifCond .ne 5, 3, [21]), (19, .iconst (-1), 1, []), (20, .ireturn, 1, []), (21, .aload_n 0, 1, []), (22, .getfield 85, 3, [11, 3, 4224]), (25, .iconst 2, 1, []), (26, .if_icmp .ge 6, 3, [32]), (29, .bipush (-2), 2, []), (31, .ireturn, 1, []), (32, .iload_n 1, 1, []), (33, .istore 4, 2, []), (35, .aload_n 0, 1, []), (36, .invokevirtual 227, 3, [159, 5202, 5205, 1012, 0, 5204, 49]), (39, .iconst 0, 1, []), (40, .istore 5, 2, []), (42, .iload 5, 2, []), (44, .iload_n 2, 1, []), (45, .if_icmp .ge 93, 3, [138]), (48, .iload 4, 2, []), (50, .ldc_w 334, 3, [6209, 1103515245]), (53, .imul, 1, []), (54, .sipush 12345, 3, []), (57, .iadd, 1, []), (58, .istore 4, 2, []), (60, .iload 4, 2, []), (62, .bipush 16, 2, []), (64, .ishr, 1, []), (65, .sipush 32767, 3, []), (68, .iand, 1, []), (69, .aload_n 0, 1, []), (70, .getfield 85, 3, [11, 3, 4224]), (73, .irem, 1, [])]
def ze_219_1 : List zE := [(74, .istore 6, 2, []), (76, .iload 4, 2, []), (78, .ldc_w 334, 3, [6209, 1103515245]), (81, .imul, 1, []), (82, .sipush 12345, 3, []), (85, .iadd, 1, []), (86, .istore 4, 2, []), (88, .iload 4, 2, []), (90, .bipush 16, 2, []), (92, .ishr, 1, []), (93, .sipush 32767, 3, []), (96, .iand, 1, []), (97, .aload_n 0, 1, []), (98, .getfield 85, 3, [11, 3, 4224]), (101, .irem, 1, []), (102, .istore 7, 2, []), (104, .aload_n 0, 1, []), (105, .iload 6, 2, []), (107, .iload 7, 2, []), (109, .iload 6, 2, []), (111, .if_icmp .ne 15, 3, [126]), (114, .iload 7, 2, []), (116, .iconst 1, 1, []), (117, .iadd, 1, []), (118, .aload_n 0, 1, []), (119, .getfield 85, 3, [11, 3, 4224]), (122, .irem, 1, []), (123, .goto 5, 3, [128]), (126, .iload 7, 2, []), (128, .invokevirtual 211, 3, [168, 6059, 6062, 1012, 2, 6061, 59]), (131, .pop, 1, []), (132, .iinc 5 1, 3, []), (135, .goto (-93), 3, [42]), (138, .iload_n 3, 1, []), (139, .ifCond .ne 13, 3, [152]), (142, .aload_n 0, 1, []), (143, .getfield 13, 3, [11, 1, 4222]), (146, .bipush 33, 2, []), (148, .iaload, 1, []), (149, .goto 7, 3, [156])]
def ze_219_2 : List zE := [(152, .aload_n 0, 1, []), (153, .invokevirtual 257, 3, [170, 6080, 6083, 1012, 0, 6082, 63]), (156, .ireturn, 1, [])]
def zm_219 : zM := (yX11_drift, cX11_drift, 8, (some .int), 4, 89, (ze_219_0 ++ (ze_219_1 ++ (ze_219_2))))
def zm_220 : zM := (yX11_copies, cX11_copies, 4, none, 0, 0, [(0, .iconst 0, 1, []), (1, .istore_n 3, 1, []), (2, .iload_n 3, 1, []), (3, .bipush 58, 2, []), (5, .if_icmp .ge 25, 3, [30]), (8, .aload_n 0, 1, []), (9, .getfield 7, 3, [11, 0, 4221]), (12, .iload_n 1, 1, []), (13, .iload_n 3, 1, []), (14, .iadd, 1, []), (15, .aload_n 0, 1, []), (16, .getfield 7, 3, [11, 0, 4221]), (19, .iload_n 2, 1, []), (20, .iload_n 3, 1, []), (21, .iadd, 1, []), (22, .iaload, 1, []), (23, .iastore, 1, []), (24, .iinc 3 1, 3, []), (27, .goto (-25), 3, [2]), (30, .return_, 1, [])])
def zm_221 : zM := (yX11_keep, cX11_keep, 3, (some .int), 1, 25, [(0, .iload_n 1, 1, []), (1, .i2l, 1, []), (2, .lconst 0, 1, []), (3, .lconst 1, 1, []), (4, .invokestatic 93, 3, [131, 5096, 5098, 1012, 3, 5097]), (7, .ifCond .ne 5, 3, [12]), (10, .iconst (-1), 1, []), (11, .ireturn, 1, []), (12, .aload_n 0, 1, []), (13, .getfield 16, 3, [11, 2, 4223]), (16, .iload_n 1, 1, []), (17, .baload, 1, []), (18, .invokestatic 244, 3, [132, 6019, 6021, 1012, 1, 6020]), (21, .istore_n 2, 1, []), (22, .aload_n 0, 1, []), (23, .getfield 16, 3, [11, 2, 4223]), (26, .iload_n 1, 1, []), (27, .iconst 1, 1, []), (28, .bastore, 1, []), (29, .aload_n 0, 1, []), (30, .bipush 58, 2, []), (32, .iload_n 1, 1, []), (33, .iconst 1, 1, []), (34, .iadd, 1, []), (35, .imul, 1, []), (36, .iconst 0, 1, []), (37, .invokevirtual 335, 3, [220, 6214, 6217, 1012, 2, 6216, 76]), (40, .iload_n 2, 1, []), (41, .ireturn, 1, [])])
def zm_222 : zM := (yX11_back, cX11_back, 2, (some .int), 1, 25, [(0, .iload_n 1, 1, []), (1, .i2l, 1, []), (2, .lconst 0, 1, []), (3, .lconst 1, 1, []), (4, .invokestatic 93, 3, [131, 5096, 5098, 1012, 3, 5097]), (7, .ifCond .ne 5, 3, [12]), (10, .iconst (-1), 1, []), (11, .ireturn, 1, []), (12, .aload_n 0, 1, []), (13, .getfield 16, 3, [11, 2, 4223]), (16, .iload_n 1, 1, []), (17, .baload, 1, []), (18, .ifCond .ne 6, 3, [24]), (21, .bipush (-2), 2, []), (23, .ireturn, 1, []), (24, .aload_n 0, 1, []), (25, .iconst 0, 1, []), (26, .bipush 58, 2, []), (28, .iload_n 1, 1, []), (29, .iconst 1, 1, []), (30, .iadd, 1, []), (31, .imul, 1, []), (32, .invokevirtual 335, 3, [220, 6214, 6217, 1012, 2, 6216, 76]), (35, .aload_n 0, 1, []), (36, .getfield 7, 3, [11, 0, 4221]), (39, .bipush 33, 2, []), (41, .iaload, 1, []), (42, .ireturn, 1, [])])
def zm_223 : zM := (yX11_isSheet, cX11_isSheet, 2, (some .boolean), 1, 25, [(0, .iload_n 0, 1, []), (1, .i2l, 1, []), (2, .lconst 0, 1, []), (3, .ldc2_w 175, 3, [5139, 3]), (6, .invokestatic 93, 3, [131, 5096, 5098, 1012, 3, 5097]), (9, .ifCond .eq 19, 3, [28]), (12, .iload_n 1, 1, []), (13, .i2l, 1, []), (14, .lconst 0, 1, []), (15, .ldc2_w 298, 3, [6171, 2]), (18, .invokestatic 93, 3, [131, 5096, 5098, 1012, 3, 5097]), (21, .ifCond .eq 7, 3, [28]), (24, .iconst 1, 1, []), (25, .goto 4, 3, [29]), (28, .iconst 0, 1, []), (29, .ireturn, 1, [])])
def zm_224 : zM := (yX11_sheet, cX11_sheet, 5, (some .int), 2, 46, [(0, .iload_n 1, 1, []), (1, .iload_n 2, 1, []), (2, .invokestatic 338, 3, [223, 6226, 6228, 1012, 2, 6227]), (5, .ifCond .eq 9, 3, [14]), (8, .iload_n 3, 1, []), (9, .bipush 40, 2, []), (11, .if_icmp .le 5, 3, [16]), (14, .iconst (-1), 1, []), (15, .ireturn, 1, []), (16, .iload_n 3, 1, []), (17, .ifCond .ge 6, 3, [23]), (20, .bipush (-14), 2, []), (22, .ireturn, 1, []), (23, .aload_n 0, 1, []), (24, .getfield 50, 3, [11, 31, 5012]), (27, .iload_n 1, 1, []), (28, .iload_n 2, 1, []), (29, .iastore, 1, []), (30, .aload_n 0, 1, []), (31, .getfield 53, 3, [11, 32, 5013]), (34, .iload_n 1, 1, []), (35, .iload_n 3, 1, []), (36, .iastore, 1, []), (37, .iconst 0, 1, []), (38, .istore 4, 2, []), (40, .iload 4, 2, []), (42, .bipush 40, 2, []), (44, .if_icmp .ge 22, 3, [66]), (47, .aload_n 0, 1, []), (48, .getfield 56, 3, [11, 33, 5014]), (51, .bipush 40, 2, []), (53, .iload_n 1, 1, []), (54, .imul, 1, []), (55, .iload 4, 2, []), (57, .iadd, 1, []), (58, .iconst 0, 1, []), (59, .iastore, 1, []), (60, .iinc 4 1, 3, []), (63, .goto (-23), 3, [40]), (66, .iconst 1, 1, []), (67, .ireturn, 1, [])])
def ze_225_0 : List zE := [(0, .iload_n 1, 1, []), (1, .iconst 0, 1, []), (2, .invokestatic 338, 3, [223, 6226, 6228, 1012, 2, 6227]), (5, .ifCond .ne 5, 3, [10]), (8, .iconst (-1), 1, []), (9, .ireturn, 1, []), (10, .aload_n 0, 1, []), (11, .getfield 50, 3, [11, 31, 5012]), (14, .iload_n 1, 1, []), (15, .iaload, 1, []), (16, .bipush (-4), 2, []), (18, .if_icmp .ne 6, 3, [24]), (21, .bipush (-11), 2, []), (23, .ireturn, 1, []), (24, .iload_n 2, 1, []), (25, .i2l, 1, []), (26, .lconst 0, 1, []), (27, .aload_n 0, 1, []), (28, .getfield 53, 3, [11, 32, 5013]), (31, .iload_n 1, 1, []), (32, .iaload, 1, []), (33, .iconst 1, 1, []), (34, .isub, 1, []), (35, .i2l, 1, []), (36, .invokestatic 93, 3, [131, 5096, 5098, 1012, 3, 5097]), (39, .ifCond .ne 6, 3, [45]), (42, .bipush (-12), 2, []), (44, .ireturn, 1, []), (45, .aload_n 0, 1, []), (46, .getfield 56, 3, [11, 33, 5014]), (49, .bipush 40, 2, []), (51, .iload_n 1, 1, []), (52, .imul, 1, []), (53, .iload_n 2, 1, []), (54, .iadd, 1, []), (55, .aload_n 0, 1, []), (56, .getfield 50, 3, [11, 31, 5012]), (59, .iload_n 1, 1, []), (60, .iaload, 1, []), (61, .ifCond .ne 8, 3, [69])]
def ze_225_1 : List zE := [(64, .iload_n 3, 1, []), (65, .i2b, 1, []), (66, .goto 19, 3, [85]), (69, .aload_n 0, 1, []), (70, .getfield 50, 3, [11, 31, 5012]), (73, .iload_n 1, 1, []), (74, .iaload, 1, []), (75, .iconst 1, 1, []), (76, .if_icmp .ne 8, 3, [84]), (79, .iload_n 3, 1, []), (80, .i2s, 1, []), (81, .goto 4, 3, [85]), (84, .iload_n 3, 1, []), (85, .iastore, 1, []), (86, .iconst 1, 1, []), (87, .ireturn, 1, [])]
def zm_225 : zM := (yX11_lay, cX11_lay, 4, (some .int), 2, 46, (ze_225_0 ++ (ze_225_1)))
def ze_226_0 : List zE := [(0, .iload_n 1, 1, []), (1, .iload_n 2, 1, []), (2, .invokestatic 338, 3, [223, 6226, 6228, 1012, 2, 6227]), (5, .ifCond .eq 16, 3, [21]), (8, .iload 4, 2, []), (10, .i2l, 1, []), (11, .lconst 0, 1, []), (12, .ldc2_w 250, 3, [6031, 12]), (15, .invokestatic 93, 3, [131, 5096, 5098, 1012, 3, 5097]), (18, .ifCond .ne 5, 3, [23]), (21, .iconst (-1), 1, []), (22, .ireturn, 1, []), (23, .iconst 0, 1, []), (24, .istore 5, 2, []), (26, .iload 5, 2, []), (28, .bipush 58, 2, []), (30, .if_icmp .ge 23, 3, [53]), (33, .aload_n 0, 1, []), (34, .getfield 59, 3, [11, 35, 5016]), (37, .iload 5, 2, []), (39, .aload_n 0, 1, []), (40, .getfield 7, 3, [11, 0, 4221]), (43, .iload 5, 2, []), (45, .iaload, 1, []), (46, .iastore, 1, []), (47, .iinc 5 1, 3, []), (50, .goto (-24), 3, [26]), (53, .iconst 0, 1, []), (54, .istore 5, 2, []), (56, .iconst 0, 1, []), (57, .istore 6, 2, []), (59, .iconst 0, 1, []), (60, .istore 7, 2, []), (62, .iload 7, 2, []), (64, .iload 4, 2, []), (66, .if_icmp .ge 184, 3, [250]), (69, .iload 5, 2, []), (71, .ifCond .ne 179, 3, [250]), (74, .iconst 0, 1, []), (75, .istore 8, 2, [])]
def ze_226_1 : List zE := [(77, .iload 8, 2, []), (79, .iconst 2, 1, []), (80, .if_icmp .ge 84, 3, [164]), (83, .iload 5, 2, []), (85, .ifCond .ne 79, 3, [164]), (88, .iload_n 3, 1, []), (89, .i2l, 1, []), (90, .iconst 2, 1, []), (91, .iload 7, 2, []), (93, .imul, 1, []), (94, .i2l, 1, []), (95, .ladd, 1, []), (96, .iload 8, 2, []), (98, .i2l, 1, []), (99, .ladd, 1, []), (100, .lstore 9, 2, []), (102, .aload_n 0, 1, []), (103, .getfield 50, 3, [11, 31, 5012]), (106, .iload_n 1, 1, []), (107, .iaload, 1, []), (108, .bipush (-4), 2, []), (110, .if_icmp .ne 7, 3, [117]), (113, .iconst 1, 1, []), (114, .goto 42, 3, [156]), (117, .aload_n 0, 1, []), (118, .getfield 50, 3, [11, 31, 5012]), (121, .iload_n 1, 1, []), (122, .iaload, 1, []), (123, .iload_n 2, 1, []), (124, .if_icmp .eq 7, 3, [131]), (127, .iconst 3, 1, []), (128, .goto 28, 3, [156]), (131, .lload 9, 2, []), (133, .lconst 0, 1, []), (134, .lcmp, 1, []), (135, .ifCond .lt 16, 3, [151]), (138, .lload 9, 2, []), (140, .aload_n 0, 1, []), (141, .getfield 53, 3, [11, 32, 5013]), (144, .iload_n 1, 1, [])]
def ze_226_2 : List zE := [(145, .iaload, 1, []), (146, .i2l, 1, []), (147, .lcmp, 1, []), (148, .ifCond .lt 7, 3, [155]), (151, .iconst 2, 1, []), (152, .goto 4, 3, [156]), (155, .iconst 0, 1, []), (156, .istore 5, 2, []), (158, .iinc 8 1, 3, []), (161, .goto (-84), 3, [77]), (164, .iload 5, 2, []), (166, .ifCond .ne 78, 3, [244]), (169, .bipush 40, 2, []), (171, .iload_n 1, 1, []), (172, .imul, 1, []), (173, .iload_n 3, 1, []), (174, .iadd, 1, []), (175, .iconst 2, 1, []), (176, .iload 7, 2, []), (178, .imul, 1, []), (179, .iadd, 1, []), (180, .istore 8, 2, []), (182, .aload_n 0, 1, []), (183, .aload_n 0, 1, []), (184, .getfield 56, 3, [11, 33, 5014]), (187, .iload 8, 2, []), (189, .iaload, 1, []), (190, .aload_n 0, 1, []), (191, .getfield 56, 3, [11, 33, 5014]), (194, .iload 8, 2, []), (196, .iconst 1, 1, []), (197, .iadd, 1, []), (198, .iaload, 1, []), (199, .invokevirtual 341, 3, [188, 6237, 6054, 1012, 2, 6052, 6053]), (202, .ifCond .ge 39, 3, [241]), (205, .iconst 0, 1, []), (206, .istore 9, 2, []), (208, .iload 9, 2, []), (210, .bipush 58, 2, []), (212, .if_icmp .ge 23, 3, [235])]
def ze_226_3 : List zE := [(215, .aload_n 0, 1, []), (216, .getfield 7, 3, [11, 0, 4221]), (219, .iload 9, 2, []), (221, .aload_n 0, 1, []), (222, .getfield 59, 3, [11, 35, 5016]), (225, .iload 9, 2, []), (227, .iaload, 1, []), (228, .iastore, 1, []), (229, .iinc 9 1, 3, []), (232, .goto (-24), 3, [208]), (235, .bipush (-20), 2, []), (237, .iload 7, 2, []), (239, .isub, 1, []), (240, .ireturn, 1, []), (241, .iinc 6 1, 3, []), (244, .iinc 7 1, 3, []), (247, .goto (-185), 3, [62]), (250, .aload_n 0, 1, []), (251, .iload 5, 2, []), (253, .putfield 344, 3, [11, 34, 5015]), (256, .iload 6, 2, []), (258, .ireturn, 1, [])]
def zm_226 : zM := (yX11_read, cX11_read, 11, (some .int), 6, 133, (ze_226_0 ++ (ze_226_1 ++ (ze_226_2 ++ (ze_226_3)))))
def zm_227 : zM := (yX11_torn, cX11_torn, 1, (some .int), 0, 0, [(0, .aload_n 0, 1, []), (1, .getfield 344, 3, [11, 34, 5015]), (4, .ireturn, 1, [])])
def zm_228 : zM := (yX11_count, cX11_count, 2, (some .int), 1, 22, [(0, .aload_n 0, 1, []), (1, .invokevirtual 227, 3, [159, 5202, 5205, 1012, 0, 5204, 49]), (4, .iload_n 1, 1, []), (5, .tableswitch 96 0 4 #[35, 40, 48, 68, 73], 35, []), (40, .aload_n 0, 1, []), (41, .invokevirtual 257, 3, [170, 6080, 6083, 1012, 0, 6082, 63]), (44, .ireturn, 1, []), (45, .aload_n 0, 1, []), (46, .getfield 7, 3, [11, 0, 4221]), (49, .bipush 45, 2, []), (51, .iaload, 1, []), (52, .ireturn, 1, []), (53, .aload_n 0, 1, []), (54, .getfield 16, 3, [11, 2, 4223]), (57, .iconst 0, 1, []), (58, .baload, 1, []), (59, .invokestatic 244, 3, [132, 6019, 6021, 1012, 1, 6020]), (62, .aload_n 0, 1, []), (63, .getfield 16, 3, [11, 2, 4223]), (66, .iconst 1, 1, []), (67, .baload, 1, []), (68, .invokestatic 244, 3, [132, 6019, 6021, 1012, 1, 6020]), (71, .iadd, 1, []), (72, .ireturn, 1, []), (73, .aload_n 0, 1, []), (74, .getfield 97, 3, [11, 18, 4239]), (77, .ireturn, 1, []), (78, .aload_n 0, 1, []), (79, .getfield 50, 3, [11, 31, 5012]), (82, .iconst 0, 1, []), (83, .iaload, 1, []), (84, .bipush (-4), 2, []), (86, .if_icmp .ne 8, 3, [94]), (89, .bipush (-4), 2, []), (91, .goto 9, 3, [100]), (94, .aload_n 0, 1, []), (95, .getfield 53, 3, [11, 32, 5013]), (98, .iconst 0, 1, []), (99, .iaload, 1, []), (100, .ireturn, 1, []), (101, .iconst (-1), 1, []), (102, .ireturn, 1, [])])
def ze_229_0 : List zE := [(0, .new 7, 3, [10, 1020, 1021, 1001]), (3, .dup, 1, []), (4, .invokespecial 9, 3, [73, 1022, 1024, 1001, 0, 1023, 0]), (7, .astore_n 1, 1, []), (8, .new 10, 3, [11, 4207, 4208, 1012]), (11, .dup, 1, []), (12, .invokespecial 12, 3, [130, 4209, 4211, 1012, 0, 4210, 0]), (15, .astore_n 2, 1, []), (16, .iconst 0, 1, []), (17, .istore_n 3, 1, []), (18, .iload_n 3, 1, []), (19, .aload_n 0, 1, []), (20, .arraylength, 1, []), (21, .iconst 5, 1, []), (22, .isub, 1, []), (23, .if_icmp .gt 1487, 3, [1510]), (26, .aload_n 0, 1, []), (27, .iload_n 3, 1, []), (28, .iaload, 1, []), (29, .bipush 63, 2, []), (31, .iand, 1, []), (32, .tableswitch 1472 0 41 #[184, 207, 230, 243, 256, 279, 302, 345, 378, 401, 444, 467, 500, 523, 556, 589, 622, 645, 678, 711, 734, 777, 810, 853, 886, 909, 932, 955, 978, 1011, 1034, 1077, 1100, 1154, 1208, 1251, 1274, 1297, 1340, 1383, 1436, 1449], 184, []), (216, .aload_n 1, 1, []), (217, .aload_n 0, 1, []), (218, .iload_n 3, 1, []), (219, .iconst 1, 1, []), (220, .iadd, 1, []), (221, .iaload, 1, []), (222, .invokevirtual 13, 3, [74, 2109, 2112, 1001, 1, 2110, 2111]), (225, .aload_n 2, 1, []), (226, .aload_n 0, 1, []), (227, .iload_n 3, 1, []), (228, .iconst 1, 1, []), (229, .iadd, 1, []), (230, .iaload, 1, []), (231, .invokevirtual 17, 3, [135, 5091, 5094, 1012, 1, 5092, 5093]), (234, .if_icmp .eq 1270, 3, [1504]), (237, .iconst 0, 1, []), (238, .ireturn, 1, []), (239, .aload_n 1, 1, [])]
def ze_229_1 : List zE := [(240, .aload_n 0, 1, []), (241, .iload_n 3, 1, []), (242, .iconst 1, 1, []), (243, .iadd, 1, []), (244, .iaload, 1, []), (245, .invokevirtual 18, 3, [75, 2116, 2119, 1001, 1, 2117, 2118]), (248, .aload_n 2, 1, []), (249, .aload_n 0, 1, []), (250, .iload_n 3, 1, []), (251, .iconst 1, 1, []), (252, .iadd, 1, []), (253, .iaload, 1, []), (254, .invokevirtual 21, 3, [136, 5099, 5102, 1012, 1, 5100, 5101]), (257, .if_icmp .eq 1247, 3, [1504]), (260, .iconst 0, 1, []), (261, .ireturn, 1, []), (262, .aload_n 1, 1, []), (263, .invokevirtual 22, 3, [76, 2120, 2123, 1001, 0, 2121, 2122]), (266, .aload_n 2, 1, []), (267, .invokevirtual 26, 3, [153, 5103, 5106, 1012, 0, 5104, 5105]), (270, .if_icmp .eq 1234, 3, [1504]), (273, .iconst 0, 1, []), (274, .ireturn, 1, []), (275, .aload_n 1, 1, []), (276, .invokevirtual 27, 3, [77, 3062, 3065, 1001, 0, 3063, 3064]), (279, .aload_n 2, 1, []), (280, .invokevirtual 30, 3, [154, 5175, 5178, 1012, 0, 5176, 5177]), (283, .if_icmp .eq 1221, 3, [1504]), (286, .iconst 0, 1, []), (287, .ireturn, 1, []), (288, .aload_n 1, 1, []), (289, .aload_n 0, 1, []), (290, .iload_n 3, 1, []), (291, .iconst 1, 1, []), (292, .iadd, 1, []), (293, .iaload, 1, []), (294, .invokevirtual 31, 3, [78, 3066, 3069, 1001, 1, 3067, 3068]), (297, .aload_n 2, 1, []), (298, .aload_n 0, 1, []), (299, .iload_n 3, 1, [])]
def ze_229_2 : List zE := [(300, .iconst 1, 1, []), (301, .iadd, 1, []), (302, .iaload, 1, []), (303, .invokevirtual 34, 3, [172, 5179, 5182, 1012, 1, 5180, 5181]), (306, .if_icmp .eq 1198, 3, [1504]), (309, .iconst 0, 1, []), (310, .ireturn, 1, []), (311, .aload_n 1, 1, []), (312, .aload_n 0, 1, []), (313, .iload_n 3, 1, []), (314, .iconst 1, 1, []), (315, .iadd, 1, []), (316, .iaload, 1, []), (317, .invokevirtual 35, 3, [79, 3070, 3073, 1001, 1, 3071, 3072]), (320, .aload_n 2, 1, []), (321, .aload_n 0, 1, []), (322, .iload_n 3, 1, []), (323, .iconst 1, 1, []), (324, .iadd, 1, []), (325, .iaload, 1, []), (326, .invokevirtual 38, 3, [173, 5183, 5186, 1012, 1, 5184, 5185]), (329, .if_icmp .eq 1175, 3, [1504]), (332, .iconst 0, 1, []), (333, .ireturn, 1, []), (334, .aload_n 1, 1, []), (335, .aload_n 0, 1, []), (336, .iload_n 3, 1, []), (337, .iconst 1, 1, []), (338, .iadd, 1, []), (339, .iaload, 1, []), (340, .aload_n 0, 1, []), (341, .iload_n 3, 1, []), (342, .iconst 2, 1, []), (343, .iadd, 1, []), (344, .iaload, 1, []), (345, .aload_n 0, 1, []), (346, .iload_n 3, 1, []), (347, .iconst 3, 1, []), (348, .iadd, 1, []), (349, .iaload, 1, [])]
def ze_229_3 : List zE := [(350, .invokevirtual 39, 3, [80, 3078, 3081, 1001, 3, 3079, 3080]), (353, .aload_n 2, 1, []), (354, .aload_n 0, 1, []), (355, .iload_n 3, 1, []), (356, .iconst 1, 1, []), (357, .iadd, 1, []), (358, .iaload, 1, []), (359, .aload_n 0, 1, []), (360, .iload_n 3, 1, []), (361, .iconst 2, 1, []), (362, .iadd, 1, []), (363, .iaload, 1, []), (364, .aload_n 0, 1, []), (365, .iload_n 3, 1, []), (366, .iconst 3, 1, []), (367, .iadd, 1, []), (368, .iaload, 1, []), (369, .invokevirtual 43, 3, [174, 5191, 5194, 1012, 3, 5192, 5193]), (372, .if_icmp .eq 1132, 3, [1504]), (375, .iconst 0, 1, []), (376, .ireturn, 1, []), (377, .aload_n 1, 1, []), (378, .aload_n 0, 1, []), (379, .iload_n 3, 1, []), (380, .iconst 1, 1, []), (381, .iadd, 1, []), (382, .iaload, 1, []), (383, .aload_n 0, 1, []), (384, .iload_n 3, 1, []), (385, .iconst 2, 1, []), (386, .iadd, 1, []), (387, .iaload, 1, []), (388, .invokevirtual 44, 3, [81, 3095, 3098, 1001, 2, 3096, 3097]), (391, .aload_n 2, 1, []), (392, .aload_n 0, 1, []), (393, .iload_n 3, 1, []), (394, .iconst 1, 1, []), (395, .iadd, 1, []), (396, .iaload, 1, []), (397, .aload_n 0, 1, [])]
def ze_229_4 : List zE := [(398, .iload_n 3, 1, []), (399, .iconst 2, 1, []), (400, .iadd, 1, []), (401, .iaload, 1, []), (402, .invokevirtual 48, 3, [175, 5214, 5217, 1012, 2, 5215, 5216]), (405, .if_icmp .eq 1099, 3, [1504]), (408, .iconst 0, 1, []), (409, .ireturn, 1, []), (410, .aload_n 1, 1, []), (411, .aload_n 0, 1, []), (412, .iload_n 3, 1, []), (413, .iconst 1, 1, []), (414, .iadd, 1, []), (415, .iaload, 1, []), (416, .invokevirtual 49, 3, [82, 3107, 3110, 1001, 1, 3108, 3109]), (419, .aload_n 2, 1, []), (420, .aload_n 0, 1, []), (421, .iload_n 3, 1, []), (422, .iconst 1, 1, []), (423, .iadd, 1, []), (424, .iaload, 1, []), (425, .invokevirtual 52, 3, [176, 5222, 5225, 1012, 1, 5223, 5224]), (428, .if_icmp .eq 1076, 3, [1504]), (431, .iconst 0, 1, []), (432, .ireturn, 1, []), (433, .aload_n 1, 1, []), (434, .aload_n 0, 1, []), (435, .iload_n 3, 1, []), (436, .iconst 1, 1, []), (437, .iadd, 1, []), (438, .iaload, 1, []), (439, .aload_n 0, 1, []), (440, .iload_n 3, 1, []), (441, .iconst 2, 1, []), (442, .iadd, 1, []), (443, .iaload, 1, []), (444, .aload_n 0, 1, []), (445, .iload_n 3, 1, []), (446, .iconst 3, 1, []), (447, .iadd, 1, [])]
def ze_229_5 : List zE := [(448, .iaload, 1, []), (449, .invokevirtual 53, 3, [83, 3111, 3114, 1001, 3, 3112, 3113]), (452, .aload_n 2, 1, []), (453, .aload_n 0, 1, []), (454, .iload_n 3, 1, []), (455, .iconst 1, 1, []), (456, .iadd, 1, []), (457, .iaload, 1, []), (458, .aload_n 0, 1, []), (459, .iload_n 3, 1, []), (460, .iconst 2, 1, []), (461, .iadd, 1, []), (462, .iaload, 1, []), (463, .aload_n 0, 1, []), (464, .iload_n 3, 1, []), (465, .iconst 3, 1, []), (466, .iadd, 1, []), (467, .iaload, 1, []), (468, .invokevirtual 56, 3, [178, 5226, 5229, 1012, 3, 5227, 5228]), (471, .if_icmp .eq 1033, 3, [1504]), (474, .iconst 0, 1, []), (475, .ireturn, 1, []), (476, .aload_n 1, 1, []), (477, .aload_n 0, 1, []), (478, .iload_n 3, 1, []), (479, .iconst 1, 1, []), (480, .iadd, 1, []), (481, .iaload, 1, []), (482, .invokevirtual 57, 3, [84, 3116, 3119, 1001, 1, 3117, 3118]), (485, .aload_n 2, 1, []), (486, .aload_n 0, 1, []), (487, .iload_n 3, 1, []), (488, .iconst 1, 1, []), (489, .iadd, 1, []), (490, .iaload, 1, []), (491, .invokevirtual 60, 3, [180, 5235, 5238, 1012, 1, 5236, 5237]), (494, .if_icmp .eq 1010, 3, [1504]), (497, .iconst 0, 1, []), (498, .ireturn, 1, []), (499, .aload_n 1, 1, [])]
def ze_229_6 : List zE := [(500, .aload_n 0, 1, []), (501, .iload_n 3, 1, []), (502, .iconst 1, 1, []), (503, .iadd, 1, []), (504, .iaload, 1, []), (505, .aload_n 0, 1, []), (506, .iload_n 3, 1, []), (507, .iconst 2, 1, []), (508, .iadd, 1, []), (509, .iaload, 1, []), (510, .invokevirtual 61, 3, [85, 3127, 3130, 1001, 2, 3128, 3129]), (513, .aload_n 2, 1, []), (514, .aload_n 0, 1, []), (515, .iload_n 3, 1, []), (516, .iconst 1, 1, []), (517, .iadd, 1, []), (518, .iaload, 1, []), (519, .aload_n 0, 1, []), (520, .iload_n 3, 1, []), (521, .iconst 2, 1, []), (522, .iadd, 1, []), (523, .iaload, 1, []), (524, .invokevirtual 64, 3, [181, 6011, 6014, 1012, 2, 6012, 6013]), (527, .if_icmp .eq 977, 3, [1504]), (530, .iconst 0, 1, []), (531, .ireturn, 1, []), (532, .aload_n 1, 1, []), (533, .aload_n 0, 1, []), (534, .iload_n 3, 1, []), (535, .iconst 1, 1, []), (536, .iadd, 1, []), (537, .iaload, 1, []), (538, .invokevirtual 65, 3, [86, 3132, 3135, 1001, 1, 3133, 3134]), (541, .aload_n 2, 1, []), (542, .aload_n 0, 1, []), (543, .iload_n 3, 1, []), (544, .iconst 1, 1, []), (545, .iadd, 1, []), (546, .iaload, 1, []), (547, .invokevirtual 68, 3, [182, 6015, 6018, 1012, 1, 6016, 6017])]
def ze_229_7 : List zE := [(550, .if_icmp .eq 954, 3, [1504]), (553, .iconst 0, 1, []), (554, .ireturn, 1, []), (555, .aload_n 1, 1, []), (556, .aload_n 0, 1, []), (557, .iload_n 3, 1, []), (558, .iconst 1, 1, []), (559, .iadd, 1, []), (560, .iaload, 1, []), (561, .aload_n 0, 1, []), (562, .iload_n 3, 1, []), (563, .iconst 2, 1, []), (564, .iadd, 1, []), (565, .iaload, 1, []), (566, .invokevirtual 69, 3, [87, 3142, 3145, 1001, 2, 3143, 3144]), (569, .aload_n 2, 1, []), (570, .aload_n 0, 1, []), (571, .iload_n 3, 1, []), (572, .iconst 1, 1, []), (573, .iadd, 1, []), (574, .iaload, 1, []), (575, .aload_n 0, 1, []), (576, .iload_n 3, 1, []), (577, .iconst 2, 1, []), (578, .iadd, 1, []), (579, .iaload, 1, []), (580, .invokevirtual 72, 3, [183, 6022, 6025, 1012, 2, 6023, 6024]), (583, .if_icmp .eq 921, 3, [1504]), (586, .iconst 0, 1, []), (587, .ireturn, 1, []), (588, .aload_n 1, 1, []), (589, .aload_n 0, 1, []), (590, .iload_n 3, 1, []), (591, .iconst 1, 1, []), (592, .iadd, 1, []), (593, .iaload, 1, []), (594, .aload_n 0, 1, []), (595, .iload_n 3, 1, []), (596, .iconst 2, 1, []), (597, .iadd, 1, [])]
def ze_229_8 : List zE := [(598, .iaload, 1, []), (599, .invokevirtual 73, 3, [88, 3146, 3149, 1001, 2, 3147, 3148]), (602, .aload_n 2, 1, []), (603, .aload_n 0, 1, []), (604, .iload_n 3, 1, []), (605, .iconst 1, 1, []), (606, .iadd, 1, []), (607, .iaload, 1, []), (608, .aload_n 0, 1, []), (609, .iload_n 3, 1, []), (610, .iconst 2, 1, []), (611, .iadd, 1, []), (612, .iaload, 1, []), (613, .invokevirtual 76, 3, [184, 6026, 6029, 1012, 2, 6027, 6028]), (616, .if_icmp .eq 888, 3, [1504]), (619, .iconst 0, 1, []), (620, .ireturn, 1, []), (621, .aload_n 1, 1, []), (622, .aload_n 0, 1, []), (623, .iload_n 3, 1, []), (624, .iconst 1, 1, []), (625, .iadd, 1, []), (626, .iaload, 1, []), (627, .aload_n 0, 1, []), (628, .iload_n 3, 1, []), (629, .iconst 2, 1, []), (630, .iadd, 1, []), (631, .iaload, 1, []), (632, .invokevirtual 77, 3, [91, 3158, 3161, 1001, 2, 3159, 3160]), (635, .aload_n 2, 1, []), (636, .aload_n 0, 1, []), (637, .iload_n 3, 1, []), (638, .iconst 1, 1, []), (639, .iadd, 1, []), (640, .iaload, 1, []), (641, .aload_n 0, 1, []), (642, .iload_n 3, 1, []), (643, .iconst 2, 1, []), (644, .iadd, 1, []), (645, .iaload, 1, [])]
def ze_229_9 : List zE := [(646, .invokevirtual 80, 3, [185, 6032, 6035, 1012, 2, 6033, 6034]), (649, .if_icmp .eq 855, 3, [1504]), (652, .iconst 0, 1, []), (653, .ireturn, 1, []), (654, .aload_n 1, 1, []), (655, .aload_n 0, 1, []), (656, .iload_n 3, 1, []), (657, .iconst 1, 1, []), (658, .iadd, 1, []), (659, .iaload, 1, []), (660, .invokevirtual 81, 3, [92, 3164, 3167, 1001, 1, 3165, 3166]), (663, .aload_n 2, 1, []), (664, .aload_n 0, 1, []), (665, .iload_n 3, 1, []), (666, .iconst 1, 1, []), (667, .iadd, 1, []), (668, .iaload, 1, []), (669, .invokevirtual 84, 3, [186, 6036, 6039, 1012, 1, 6037, 6038]), (672, .if_icmp .eq 832, 3, [1504]), (675, .iconst 0, 1, []), (676, .ireturn, 1, []), (677, .aload_n 1, 1, []), (678, .aload_n 0, 1, []), (679, .iload_n 3, 1, []), (680, .iconst 1, 1, []), (681, .iadd, 1, []), (682, .iaload, 1, []), (683, .aload_n 0, 1, []), (684, .iload_n 3, 1, []), (685, .iconst 2, 1, []), (686, .iadd, 1, []), (687, .iaload, 1, []), (688, .invokevirtual 85, 3, [93, 3168, 3171, 1001, 2, 3169, 3170]), (691, .aload_n 2, 1, []), (692, .aload_n 0, 1, []), (693, .iload_n 3, 1, []), (694, .iconst 1, 1, []), (695, .iadd, 1, []), (696, .iaload, 1, []), (697, .aload_n 0, 1, [])]
def ze_229_10 : List zE := [(698, .iload_n 3, 1, []), (699, .iconst 2, 1, []), (700, .iadd, 1, []), (701, .iaload, 1, []), (702, .invokevirtual 88, 3, [187, 6040, 6043, 1012, 2, 6041, 6042]), (705, .if_icmp .eq 799, 3, [1504]), (708, .iconst 0, 1, []), (709, .ireturn, 1, []), (710, .aload_n 1, 1, []), (711, .aload_n 0, 1, []), (712, .iload_n 3, 1, []), (713, .iconst 1, 1, []), (714, .iadd, 1, []), (715, .iaload, 1, []), (716, .aload_n 0, 1, []), (717, .iload_n 3, 1, []), (718, .iconst 2, 1, []), (719, .iadd, 1, []), (720, .iaload, 1, []), (721, .invokevirtual 89, 3, [94, 3178, 3181, 1001, 2, 3179, 3180]), (724, .aload_n 2, 1, []), (725, .aload_n 0, 1, []), (726, .iload_n 3, 1, []), (727, .iconst 1, 1, []), (728, .iadd, 1, []), (729, .iaload, 1, []), (730, .aload_n 0, 1, []), (731, .iload_n 3, 1, []), (732, .iconst 2, 1, []), (733, .iadd, 1, []), (734, .iaload, 1, []), (735, .invokevirtual 92, 3, [188, 6051, 6054, 1012, 2, 6052, 6053]), (738, .if_icmp .eq 766, 3, [1504]), (741, .iconst 0, 1, []), (742, .ireturn, 1, []), (743, .aload_n 1, 1, []), (744, .aload_n 0, 1, []), (745, .iload_n 3, 1, []), (746, .iconst 1, 1, []), (747, .iadd, 1, [])]
def ze_229_11 : List zE := [(748, .iaload, 1, []), (749, .invokevirtual 93, 3, [95, 3196, 3199, 1001, 1, 3197, 3198]), (752, .aload_n 2, 1, []), (753, .aload_n 0, 1, []), (754, .iload_n 3, 1, []), (755, .iconst 1, 1, []), (756, .iadd, 1, []), (757, .iaload, 1, []), (758, .invokevirtual 96, 3, [189, 6071, 6074, 1012, 1, 6072, 6073]), (761, .if_icmp .eq 743, 3, [1504]), (764, .iconst 0, 1, []), (765, .ireturn, 1, []), (766, .aload_n 1, 1, []), (767, .aload_n 0, 1, []), (768, .iload_n 3, 1, []), (769, .iconst 1, 1, []), (770, .iadd, 1, []), (771, .iaload, 1, []), (772, .aload_n 0, 1, []), (773, .iload_n 3, 1, []), (774, .iconst 2, 1, []), (775, .iadd, 1, []), (776, .iaload, 1, []), (777, .aload_n 0, 1, []), (778, .iload_n 3, 1, []), (779, .iconst 3, 1, []), (780, .iadd, 1, []), (781, .iaload, 1, []), (782, .invokevirtual 97, 3, [96, 3211, 3214, 1001, 3, 3212, 3213]), (785, .aload_n 2, 1, []), (786, .aload_n 0, 1, []), (787, .iload_n 3, 1, []), (788, .iconst 1, 1, []), (789, .iadd, 1, []), (790, .iaload, 1, []), (791, .aload_n 0, 1, []), (792, .iload_n 3, 1, []), (793, .iconst 2, 1, []), (794, .iadd, 1, []), (795, .iaload, 1, [])]
def ze_229_12 : List zE := [(796, .aload_n 0, 1, []), (797, .iload_n 3, 1, []), (798, .iconst 3, 1, []), (799, .iadd, 1, []), (800, .iaload, 1, []), (801, .invokevirtual 100, 3, [190, 6084, 6087, 1012, 3, 6085, 6086]), (804, .if_icmp .eq 700, 3, [1504]), (807, .iconst 0, 1, []), (808, .ireturn, 1, []), (809, .aload_n 1, 1, []), (810, .aload_n 0, 1, []), (811, .iload_n 3, 1, []), (812, .iconst 1, 1, []), (813, .iadd, 1, []), (814, .iaload, 1, []), (815, .aload_n 0, 1, []), (816, .iload_n 3, 1, []), (817, .iconst 2, 1, []), (818, .iadd, 1, []), (819, .iaload, 1, []), (820, .invokevirtual 101, 3, [97, 3215, 3218, 1001, 2, 3216, 3217]), (823, .aload_n 2, 1, []), (824, .aload_n 0, 1, []), (825, .iload_n 3, 1, []), (826, .iconst 1, 1, []), (827, .iadd, 1, []), (828, .iaload, 1, []), (829, .aload_n 0, 1, []), (830, .iload_n 3, 1, []), (831, .iconst 2, 1, []), (832, .iadd, 1, []), (833, .iaload, 1, []), (834, .invokevirtual 104, 3, [191, 6088, 6091, 1012, 2, 6089, 6090]), (837, .if_icmp .eq 667, 3, [1504]), (840, .iconst 0, 1, []), (841, .ireturn, 1, []), (842, .aload_n 1, 1, []), (843, .aload_n 0, 1, []), (844, .iload_n 3, 1, []), (845, .iconst 1, 1, [])]
def ze_229_13 : List zE := [(846, .iadd, 1, []), (847, .iaload, 1, []), (848, .aload_n 0, 1, []), (849, .iload_n 3, 1, []), (850, .iconst 2, 1, []), (851, .iadd, 1, []), (852, .iaload, 1, []), (853, .aload_n 0, 1, []), (854, .iload_n 3, 1, []), (855, .iconst 3, 1, []), (856, .iadd, 1, []), (857, .iaload, 1, []), (858, .invokevirtual 105, 3, [98, 3219, 3222, 1001, 3, 3220, 3221]), (861, .aload_n 2, 1, []), (862, .aload_n 0, 1, []), (863, .iload_n 3, 1, []), (864, .iconst 1, 1, []), (865, .iadd, 1, []), (866, .iaload, 1, []), (867, .aload_n 0, 1, []), (868, .iload_n 3, 1, []), (869, .iconst 2, 1, []), (870, .iadd, 1, []), (871, .iaload, 1, []), (872, .aload_n 0, 1, []), (873, .iload_n 3, 1, []), (874, .iconst 3, 1, []), (875, .iadd, 1, []), (876, .iaload, 1, []), (877, .invokevirtual 108, 3, [192, 6092, 6095, 1012, 3, 6093, 6094]), (880, .if_icmp .eq 624, 3, [1504]), (883, .iconst 0, 1, []), (884, .ireturn, 1, []), (885, .aload_n 1, 1, []), (886, .aload_n 0, 1, []), (887, .iload_n 3, 1, []), (888, .iconst 1, 1, []), (889, .iadd, 1, []), (890, .iaload, 1, []), (891, .aload_n 0, 1, [])]
def ze_229_14 : List zE := [(892, .iload_n 3, 1, []), (893, .iconst 2, 1, []), (894, .iadd, 1, []), (895, .iaload, 1, []), (896, .invokevirtual 109, 3, [100, 3228, 3231, 1001, 2, 3229, 3230]), (899, .aload_n 2, 1, []), (900, .aload_n 0, 1, []), (901, .iload_n 3, 1, []), (902, .iconst 1, 1, []), (903, .iadd, 1, []), (904, .iaload, 1, []), (905, .aload_n 0, 1, []), (906, .iload_n 3, 1, []), (907, .iconst 2, 1, []), (908, .iadd, 1, []), (909, .iaload, 1, []), (910, .invokevirtual 112, 3, [199, 6096, 6099, 1012, 2, 6097, 6098]), (913, .if_icmp .eq 591, 3, [1504]), (916, .iconst 0, 1, []), (917, .ireturn, 1, []), (918, .aload_n 1, 1, []), (919, .aload_n 0, 1, []), (920, .iload_n 3, 1, []), (921, .iconst 1, 1, []), (922, .iadd, 1, []), (923, .iaload, 1, []), (924, .invokevirtual 113, 3, [101, 4031, 4034, 1001, 1, 4032, 4033]), (927, .aload_n 2, 1, []), (928, .aload_n 0, 1, []), (929, .iload_n 3, 1, []), (930, .iconst 1, 1, []), (931, .iadd, 1, []), (932, .iaload, 1, []), (933, .invokevirtual 116, 3, [200, 6126, 6129, 1012, 1, 6127, 6128]), (936, .if_icmp .eq 568, 3, [1504]), (939, .iconst 0, 1, []), (940, .ireturn, 1, []), (941, .aload_n 1, 1, []), (942, .aload_n 0, 1, []), (943, .iload_n 3, 1, [])]
def ze_229_15 : List zE := [(944, .iconst 1, 1, []), (945, .iadd, 1, []), (946, .iaload, 1, []), (947, .invokevirtual 117, 3, [103, 4039, 4042, 1001, 1, 4040, 4041]), (950, .aload_n 2, 1, []), (951, .aload_n 0, 1, []), (952, .iload_n 3, 1, []), (953, .iconst 1, 1, []), (954, .iadd, 1, []), (955, .iaload, 1, []), (956, .invokevirtual 120, 3, [202, 6130, 6133, 1012, 1, 6131, 6132]), (959, .if_icmp .eq 545, 3, [1504]), (962, .iconst 0, 1, []), (963, .ireturn, 1, []), (964, .aload_n 1, 1, []), (965, .aload_n 0, 1, []), (966, .iload_n 3, 1, []), (967, .iconst 1, 1, []), (968, .iadd, 1, []), (969, .iaload, 1, []), (970, .invokevirtual 121, 3, [106, 4057, 4060, 1001, 1, 4058, 4059]), (973, .aload_n 2, 1, []), (974, .aload_n 0, 1, []), (975, .iload_n 3, 1, []), (976, .iconst 1, 1, []), (977, .iadd, 1, []), (978, .iaload, 1, []), (979, .invokevirtual 124, 3, [203, 6138, 6141, 1012, 1, 6139, 6140]), (982, .if_icmp .eq 522, 3, [1504]), (985, .iconst 0, 1, []), (986, .ireturn, 1, []), (987, .aload_n 1, 1, []), (988, .aload_n 0, 1, []), (989, .iload_n 3, 1, []), (990, .iconst 1, 1, []), (991, .iadd, 1, []), (992, .iaload, 1, []), (993, .invokevirtual 125, 3, [107, 4061, 4064, 1001, 1, 4062, 4063]), (996, .aload_n 2, 1, []), (997, .aload_n 0, 1, [])]
def ze_229_16 : List zE := [(998, .iload_n 3, 1, []), (999, .iconst 1, 1, []), (1000, .iadd, 1, []), (1001, .iaload, 1, []), (1002, .invokevirtual 128, 3, [207, 6142, 6145, 1012, 1, 6143, 6144]), (1005, .if_icmp .eq 499, 3, [1504]), (1008, .iconst 0, 1, []), (1009, .ireturn, 1, []), (1010, .aload_n 1, 1, []), (1011, .aload_n 0, 1, []), (1012, .iload_n 3, 1, []), (1013, .iconst 1, 1, []), (1014, .iadd, 1, []), (1015, .iaload, 1, []), (1016, .aload_n 0, 1, []), (1017, .iload_n 3, 1, []), (1018, .iconst 2, 1, []), (1019, .iadd, 1, []), (1020, .iaload, 1, []), (1021, .invokevirtual 129, 3, [108, 4083, 4086, 1001, 2, 4084, 4085]), (1024, .aload_n 2, 1, []), (1025, .aload_n 0, 1, []), (1026, .iload_n 3, 1, []), (1027, .iconst 1, 1, []), (1028, .iadd, 1, []), (1029, .iaload, 1, []), (1030, .aload_n 0, 1, []), (1031, .iload_n 3, 1, []), (1032, .iconst 2, 1, []), (1033, .iadd, 1, []), (1034, .iaload, 1, []), (1035, .invokevirtual 132, 3, [208, 6158, 6161, 1012, 2, 6159, 6160]), (1038, .if_icmp .eq 466, 3, [1504]), (1041, .iconst 0, 1, []), (1042, .ireturn, 1, []), (1043, .aload_n 1, 1, []), (1044, .aload_n 0, 1, []), (1045, .iload_n 3, 1, []), (1046, .iconst 1, 1, []), (1047, .iadd, 1, [])]
def ze_229_17 : List zE := [(1048, .iaload, 1, []), (1049, .invokevirtual 133, 3, [109, 4095, 4098, 1001, 1, 4096, 4097]), (1052, .aload_n 2, 1, []), (1053, .aload_n 0, 1, []), (1054, .iload_n 3, 1, []), (1055, .iconst 1, 1, []), (1056, .iadd, 1, []), (1057, .iaload, 1, []), (1058, .invokevirtual 136, 3, [209, 6163, 6166, 1012, 1, 6164, 6165]), (1061, .if_icmp .eq 443, 3, [1504]), (1064, .iconst 0, 1, []), (1065, .ireturn, 1, []), (1066, .aload_n 1, 1, []), (1067, .aload_n 0, 1, []), (1068, .iload_n 3, 1, []), (1069, .iconst 1, 1, []), (1070, .iadd, 1, []), (1071, .iaload, 1, []), (1072, .aload_n 0, 1, []), (1073, .iload_n 3, 1, []), (1074, .iconst 2, 1, []), (1075, .iadd, 1, []), (1076, .iaload, 1, []), (1077, .aload_n 0, 1, []), (1078, .iload_n 3, 1, []), (1079, .iconst 3, 1, []), (1080, .iadd, 1, []), (1081, .iaload, 1, []), (1082, .invokevirtual 137, 3, [110, 4099, 4102, 1001, 3, 4100, 4101]), (1085, .aload_n 2, 1, []), (1086, .aload_n 0, 1, []), (1087, .iload_n 3, 1, []), (1088, .iconst 1, 1, []), (1089, .iadd, 1, []), (1090, .iaload, 1, []), (1091, .aload_n 0, 1, []), (1092, .iload_n 3, 1, []), (1093, .iconst 2, 1, []), (1094, .iadd, 1, []), (1095, .iaload, 1, [])]
def ze_229_18 : List zE := [(1096, .aload_n 0, 1, []), (1097, .iload_n 3, 1, []), (1098, .iconst 3, 1, []), (1099, .iadd, 1, []), (1100, .iaload, 1, []), (1101, .invokevirtual 140, 3, [211, 6167, 6170, 1012, 3, 6168, 6169]), (1104, .if_icmp .eq 400, 3, [1504]), (1107, .iconst 0, 1, []), (1108, .ireturn, 1, []), (1109, .aload_n 1, 1, []), (1110, .aload_n 0, 1, []), (1111, .iload_n 3, 1, []), (1112, .iconst 1, 1, []), (1113, .iadd, 1, []), (1114, .iaload, 1, []), (1115, .invokevirtual 141, 3, [112, 4111, 4114, 1001, 1, 4112, 4113]), (1118, .aload_n 2, 1, []), (1119, .aload_n 0, 1, []), (1120, .iload_n 3, 1, []), (1121, .iconst 1, 1, []), (1122, .iadd, 1, []), (1123, .iaload, 1, []), (1124, .invokevirtual 144, 3, [212, 6176, 6179, 1012, 1, 6177, 6178]), (1127, .if_icmp .eq 377, 3, [1504]), (1130, .iconst 0, 1, []), (1131, .ireturn, 1, []), (1132, .aload_n 1, 1, []), (1133, .aload_n 0, 1, []), (1134, .iload_n 3, 1, []), (1135, .iconst 1, 1, []), (1136, .iadd, 1, []), (1137, .iaload, 1, []), (1138, .aload_n 0, 1, []), (1139, .iload_n 3, 1, []), (1140, .iconst 2, 1, []), (1141, .iadd, 1, []), (1142, .iaload, 1, []), (1143, .aload_n 0, 1, []), (1144, .iload_n 3, 1, []), (1145, .iconst 3, 1, [])]
def ze_229_19 : List zE := [(1146, .iadd, 1, []), (1147, .iaload, 1, []), (1148, .aload_n 0, 1, []), (1149, .iload_n 3, 1, []), (1150, .iconst 4, 1, []), (1151, .iadd, 1, []), (1152, .iaload, 1, []), (1153, .invokevirtual 145, 3, [113, 4115, 4118, 1001, 4, 4116, 4117]), (1156, .aload_n 2, 1, []), (1157, .aload_n 0, 1, []), (1158, .iload_n 3, 1, []), (1159, .iconst 1, 1, []), (1160, .iadd, 1, []), (1161, .iaload, 1, []), (1162, .aload_n 0, 1, []), (1163, .iload_n 3, 1, []), (1164, .iconst 2, 1, []), (1165, .iadd, 1, []), (1166, .iaload, 1, []), (1167, .aload_n 0, 1, []), (1168, .iload_n 3, 1, []), (1169, .iconst 3, 1, []), (1170, .iadd, 1, []), (1171, .iaload, 1, []), (1172, .aload_n 0, 1, []), (1173, .iload_n 3, 1, []), (1174, .iconst 4, 1, []), (1175, .iadd, 1, []), (1176, .iaload, 1, []), (1177, .invokevirtual 149, 3, [217, 6181, 6184, 1012, 4, 6182, 6183]), (1180, .lcmp, 1, []), (1181, .ifCond .eq 323, 3, [1504]), (1184, .iconst 0, 1, []), (1185, .ireturn, 1, []), (1186, .aload_n 1, 1, []), (1187, .aload_n 0, 1, []), (1188, .iload_n 3, 1, []), (1189, .iconst 1, 1, []), (1190, .iadd, 1, []), (1191, .iaload, 1, [])]
def ze_229_20 : List zE := [(1192, .aload_n 0, 1, []), (1193, .iload_n 3, 1, []), (1194, .iconst 2, 1, []), (1195, .iadd, 1, []), (1196, .iaload, 1, []), (1197, .aload_n 0, 1, []), (1198, .iload_n 3, 1, []), (1199, .iconst 3, 1, []), (1200, .iadd, 1, []), (1201, .iaload, 1, []), (1202, .aload_n 0, 1, []), (1203, .iload_n 3, 1, []), (1204, .iconst 4, 1, []), (1205, .iadd, 1, []), (1206, .iaload, 1, []), (1207, .invokevirtual 150, 3, [114, 4136, 4139, 1001, 4, 4137, 4138]), (1210, .aload_n 2, 1, []), (1211, .aload_n 0, 1, []), (1212, .iload_n 3, 1, []), (1213, .iconst 1, 1, []), (1214, .iadd, 1, []), (1215, .iaload, 1, []), (1216, .aload_n 0, 1, []), (1217, .iload_n 3, 1, []), (1218, .iconst 2, 1, []), (1219, .iadd, 1, []), (1220, .iaload, 1, []), (1221, .aload_n 0, 1, []), (1222, .iload_n 3, 1, []), (1223, .iconst 3, 1, []), (1224, .iadd, 1, []), (1225, .iaload, 1, []), (1226, .aload_n 0, 1, []), (1227, .iload_n 3, 1, []), (1228, .iconst 4, 1, []), (1229, .iadd, 1, []), (1230, .iaload, 1, []), (1231, .invokevirtual 153, 3, [218, 6200, 6203, 1012, 4, 6201, 6202]), (1234, .lcmp, 1, []), (1235, .ifCond .eq 269, 3, [1504])]
def ze_229_21 : List zE := [(1238, .iconst 0, 1, []), (1239, .ireturn, 1, []), (1240, .aload_n 1, 1, []), (1241, .aload_n 0, 1, []), (1242, .iload_n 3, 1, []), (1243, .iconst 1, 1, []), (1244, .iadd, 1, []), (1245, .iaload, 1, []), (1246, .aload_n 0, 1, []), (1247, .iload_n 3, 1, []), (1248, .iconst 2, 1, []), (1249, .iadd, 1, []), (1250, .iaload, 1, []), (1251, .aload_n 0, 1, []), (1252, .iload_n 3, 1, []), (1253, .iconst 3, 1, []), (1254, .iadd, 1, []), (1255, .iaload, 1, []), (1256, .invokevirtual 154, 3, [119, 4140, 4143, 1001, 3, 4141, 4142]), (1259, .aload_n 2, 1, []), (1260, .aload_n 0, 1, []), (1261, .iload_n 3, 1, []), (1262, .iconst 1, 1, []), (1263, .iadd, 1, []), (1264, .iaload, 1, []), (1265, .aload_n 0, 1, []), (1266, .iload_n 3, 1, []), (1267, .iconst 2, 1, []), (1268, .iadd, 1, []), (1269, .iaload, 1, []), (1270, .aload_n 0, 1, []), (1271, .iload_n 3, 1, []), (1272, .iconst 3, 1, []), (1273, .iadd, 1, []), (1274, .iaload, 1, []), (1275, .invokevirtual 157, 3, [219, 6204, 6207, 1012, 3, 6205, 6206]), (1278, .if_icmp .eq 226, 3, [1504]), (1281, .iconst 0, 1, []), (1282, .ireturn, 1, []), (1283, .aload_n 1, 1, [])]
def ze_229_22 : List zE := [(1284, .aload_n 0, 1, []), (1285, .iload_n 3, 1, []), (1286, .iconst 1, 1, []), (1287, .iadd, 1, []), (1288, .iaload, 1, []), (1289, .invokevirtual 158, 3, [122, 4151, 4154, 1001, 1, 4152, 4153]), (1292, .aload_n 2, 1, []), (1293, .aload_n 0, 1, []), (1294, .iload_n 3, 1, []), (1295, .iconst 1, 1, []), (1296, .iadd, 1, []), (1297, .iaload, 1, []), (1298, .invokevirtual 161, 3, [221, 6210, 6213, 1012, 1, 6211, 6212]), (1301, .if_icmp .eq 203, 3, [1504]), (1304, .iconst 0, 1, []), (1305, .ireturn, 1, []), (1306, .aload_n 1, 1, []), (1307, .aload_n 0, 1, []), (1308, .iload_n 3, 1, []), (1309, .iconst 1, 1, []), (1310, .iadd, 1, []), (1311, .iaload, 1, []), (1312, .invokevirtual 162, 3, [123, 4155, 4158, 1001, 1, 4156, 4157]), (1315, .aload_n 2, 1, []), (1316, .aload_n 0, 1, []), (1317, .iload_n 3, 1, []), (1318, .iconst 1, 1, []), (1319, .iadd, 1, []), (1320, .iaload, 1, []), (1321, .invokevirtual 165, 3, [222, 6218, 6221, 1012, 1, 6219, 6220]), (1324, .if_icmp .eq 180, 3, [1504]), (1327, .iconst 0, 1, []), (1328, .ireturn, 1, []), (1329, .aload_n 1, 1, []), (1330, .aload_n 0, 1, []), (1331, .iload_n 3, 1, []), (1332, .iconst 1, 1, []), (1333, .iadd, 1, []), (1334, .iaload, 1, []), (1335, .aload_n 0, 1, [])]
def ze_229_23 : List zE := [(1336, .iload_n 3, 1, []), (1337, .iconst 2, 1, []), (1338, .iadd, 1, []), (1339, .iaload, 1, []), (1340, .aload_n 0, 1, []), (1341, .iload_n 3, 1, []), (1342, .iconst 3, 1, []), (1343, .iadd, 1, []), (1344, .iaload, 1, []), (1345, .invokevirtual 166, 3, [124, 4159, 4162, 1001, 3, 4160, 4161]), (1348, .aload_n 2, 1, []), (1349, .aload_n 0, 1, []), (1350, .iload_n 3, 1, []), (1351, .iconst 1, 1, []), (1352, .iadd, 1, []), (1353, .iaload, 1, []), (1354, .aload_n 0, 1, []), (1355, .iload_n 3, 1, []), (1356, .iconst 2, 1, []), (1357, .iadd, 1, []), (1358, .iaload, 1, []), (1359, .aload_n 0, 1, []), (1360, .iload_n 3, 1, []), (1361, .iconst 3, 1, []), (1362, .iadd, 1, []), (1363, .iaload, 1, []), (1364, .invokevirtual 169, 3, [224, 6222, 6225, 1012, 3, 6223, 6224]), (1367, .if_icmp .eq 137, 3, [1504]), (1370, .iconst 0, 1, []), (1371, .ireturn, 1, []), (1372, .aload_n 1, 1, []), (1373, .aload_n 0, 1, []), (1374, .iload_n 3, 1, []), (1375, .iconst 1, 1, []), (1376, .iadd, 1, []), (1377, .iaload, 1, []), (1378, .aload_n 0, 1, []), (1379, .iload_n 3, 1, []), (1380, .iconst 2, 1, []), (1381, .iadd, 1, [])]
def ze_229_24 : List zE := [(1382, .iaload, 1, []), (1383, .aload_n 0, 1, []), (1384, .iload_n 3, 1, []), (1385, .iconst 3, 1, []), (1386, .iadd, 1, []), (1387, .iaload, 1, []), (1388, .invokevirtual 170, 3, [125, 4167, 4170, 1001, 3, 4168, 4169]), (1391, .aload_n 2, 1, []), (1392, .aload_n 0, 1, []), (1393, .iload_n 3, 1, []), (1394, .iconst 1, 1, []), (1395, .iadd, 1, []), (1396, .iaload, 1, []), (1397, .aload_n 0, 1, []), (1398, .iload_n 3, 1, []), (1399, .iconst 2, 1, []), (1400, .iadd, 1, []), (1401, .iaload, 1, []), (1402, .aload_n 0, 1, []), (1403, .iload_n 3, 1, []), (1404, .iconst 3, 1, []), (1405, .iadd, 1, []), (1406, .iaload, 1, []), (1407, .invokevirtual 173, 3, [225, 6229, 6232, 1012, 3, 6230, 6231]), (1410, .if_icmp .eq 94, 3, [1504]), (1413, .iconst 0, 1, []), (1414, .ireturn, 1, []), (1415, .aload_n 1, 1, []), (1416, .aload_n 0, 1, []), (1417, .iload_n 3, 1, []), (1418, .iconst 1, 1, []), (1419, .iadd, 1, []), (1420, .iaload, 1, []), (1421, .aload_n 0, 1, []), (1422, .iload_n 3, 1, []), (1423, .iconst 2, 1, []), (1424, .iadd, 1, []), (1425, .iaload, 1, []), (1426, .aload_n 0, 1, []), (1427, .iload_n 3, 1, [])]
def ze_229_25 : List zE := [(1428, .iconst 3, 1, []), (1429, .iadd, 1, []), (1430, .iaload, 1, []), (1431, .aload_n 0, 1, []), (1432, .iload_n 3, 1, []), (1433, .iconst 4, 1, []), (1434, .iadd, 1, []), (1435, .iaload, 1, []), (1436, .invokevirtual 174, 3, [126, 4183, 4186, 1001, 4, 4184, 4185]), (1439, .aload_n 2, 1, []), (1440, .aload_n 0, 1, []), (1441, .iload_n 3, 1, []), (1442, .iconst 1, 1, []), (1443, .iadd, 1, []), (1444, .iaload, 1, []), (1445, .aload_n 0, 1, []), (1446, .iload_n 3, 1, []), (1447, .iconst 2, 1, []), (1448, .iadd, 1, []), (1449, .iaload, 1, []), (1450, .aload_n 0, 1, []), (1451, .iload_n 3, 1, []), (1452, .iconst 3, 1, []), (1453, .iadd, 1, []), (1454, .iaload, 1, []), (1455, .aload_n 0, 1, []), (1456, .iload_n 3, 1, []), (1457, .iconst 4, 1, []), (1458, .iadd, 1, []), (1459, .iaload, 1, []), (1460, .invokevirtual 178, 3, [226, 6233, 6236, 1012, 4, 6234, 6235]), (1463, .if_icmp .eq 41, 3, [1504]), (1466, .iconst 0, 1, []), (1467, .ireturn, 1, []), (1468, .aload_n 1, 1, []), (1469, .invokevirtual 179, 3, [127, 4199, 4202, 1001, 0, 4200, 4201]), (1472, .aload_n 2, 1, []), (1473, .invokevirtual 182, 3, [227, 6238, 7001, 1012, 0, 6239, 7000]), (1476, .if_icmp .eq 28, 3, [1504]), (1479, .iconst 0, 1, [])]
def ze_229_26 : List zE := [(1480, .ireturn, 1, []), (1481, .aload_n 1, 1, []), (1482, .aload_n 0, 1, []), (1483, .iload_n 3, 1, []), (1484, .iconst 1, 1, []), (1485, .iadd, 1, []), (1486, .iaload, 1, []), (1487, .invokevirtual 183, 3, [128, 4203, 4206, 1001, 1, 4204, 4205]), (1490, .aload_n 2, 1, []), (1491, .aload_n 0, 1, []), (1492, .iload_n 3, 1, []), (1493, .iconst 1, 1, []), (1494, .iadd, 1, []), (1495, .iaload, 1, []), (1496, .invokevirtual 186, 3, [228, 7002, 7005, 1012, 1, 7003, 7004]), (1499, .if_icmp .eq 5, 3, [1504]), (1502, .iconst 0, 1, []), (1503, .ireturn, 1, []), (1504, .iinc 3 5, 3, []), (1507, .goto (-1489), 3, [18]), (1510, .iconst 1, 1, []), (1511, .ireturn, 1, [])]
def zm_229 : zM := (yL_law, cL_law, 4, (some .boolean), 9, 191, (ze_229_0 ++ (ze_229_1 ++ (ze_229_2 ++ (ze_229_3 ++ (ze_229_4 ++ (ze_229_5 ++ (ze_229_6 ++ (ze_229_7 ++ (ze_229_8 ++ (ze_229_9 ++ (ze_229_10 ++ (ze_229_11 ++ (ze_229_12 ++ (ze_229_13 ++ (ze_229_14 ++ (ze_229_15 ++ (ze_229_16 ++ (ze_229_17 ++ (ze_229_18 ++ (ze_229_19 ++ (ze_229_20 ++ (ze_229_21 ++ (ze_229_22 ++ (ze_229_23 ++ (ze_229_24 ++ (ze_229_25 ++ (ze_229_26))))))))))))))))))))))))))))
def zm_230 : zM := (yJ6_bitCount_0f7a4, cJ6_bitCount_0f7a4, 1, (some .int), 0, 0, [(0, .iload_n 0, 1, []), (1, .iload_n 0, 1, []), (2, .iconst 1, 1, []), (3, .iushr, 1, []), (4, .ldc_w 265, 3, [4050, 1431655765]), (7, .iand, 1, []), (8, .isub, 1, []), (9, .istore_n 0, 1, []), (10, .iload_n 0, 1, []), (11, .ldc_w 266, 3, [4051, 858993459]), (14, .iand, 1, []), (15, .iload_n 0, 1, []), (16, .iconst 2, 1, []), (17, .iushr, 1, []), (18, .ldc_w 266, 3, [4051, 858993459]), (21, .iand, 1, []), (22, .iadd, 1, []), (23, .istore_n 0, 1, []), (24, .iload_n 0, 1, []), (25, .iload_n 0, 1, []), (26, .iconst 4, 1, []), (27, .iushr, 1, []), (28, .iadd, 1, []), (29, .ldc_w 267, 3, [4052, 252645135]), (32, .iand, 1, []), (33, .istore_n 0, 1, []), (34, .iload_n 0, 1, []), (35, .iload_n 0, 1, []), (36, .bipush 8, 2, []), (38, .iushr, 1, []), (39, .iadd, 1, []), (40, .istore_n 0, 1, []), (41, .iload_n 0, 1, []), (42, .iload_n 0, 1, []), (43, .bipush 16, 2, []), (45, .iushr, 1, []), (46, .iadd, 1, []), (47, .istore_n 0, 1, []), (48, .iload_n 0, 1, []), (49, .bipush 63, 2, []), (51, .iand, 1, []), (52, .ireturn, 1, [])])
def zm_231 : zM := (yJ0_length_8abf5, cJ0_length_8abf5, 1, (some .int), 1, 20, [(0, .aload_n 0, 1, []), (1, .getfield 9, 3, [99, 0, 7006]), (4, .arraylength, 1, []), (5, .aload_n 0, 1, []), (6, .invokevirtual 335, 3, [233, 2161, 2164, 1013, 0, 2162, 2163]), (9, .ishr, 1, []), (10, .ireturn, 1, [])])
def zm_232 : zM := (yJ0_charAt_5068e, cJ0_charAt_5068e, 2, (some .char), 3, 64, [(0, .aload_n 0, 1, []), (1, .invokevirtual 492, 3, [234, 2171, 2174, 1013, 0, 2172, 2173]), (4, .ifCond .eq 12, 3, [16]), (7, .aload_n 0, 1, []), (8, .getfield 9, 3, [99, 0, 7006]), (11, .iload_n 1, 1, []), (12, .invokestatic 495, 3, [236, 2175, 2177, 1014, 2, 2176]), (15, .ireturn, 1, []), (16, .aload_n 0, 1, []), (17, .getfield 9, 3, [99, 0, 7006]), (20, .iload_n 1, 1, []), (21, .invokestatic 498, 3, [9999]), (24, .ireturn, 1, [])])
def zm_233 : zM := (yJ0_coder_7d493, cJ0_coder_7d493, 1, (some .byte), 0, 0, [(0, .getstatic 38, 3, [2165]), (3, .ifCond .eq 10, 3, [13]), (6, .aload_n 0, 1, []), (7, .getfield 15, 3, [99, 0, 7007]), (10, .goto 4, 3, [14]), (13, .iconst 1, 1, []), (14, .ireturn, 1, [])])
def zm_234 : zM := (yJ0_isLatin1_aae02, cJ0_isLatin1_aae02, 1, (some .boolean), 0, 0, [(0, .getstatic 38, 3, [2165]), (3, .ifCond .eq 14, 3, [17]), (6, .aload_n 0, 1, []), (7, .getfield 15, 3, [99, 0, 7007]), (10, .ifCond .ne 7, 3, [17]), (13, .iconst 1, 1, []), (14, .goto 4, 3, [18]), (17, .iconst 0, 1, []), (18, .ireturn, 1, [])])
def zm_235 : zM := (yJ0_checkIndex_df160, cJ0_checkIndex_df160, 2, none, 1, 22, [(0, .iload_n 0, 1, []), (1, .iload_n 1, 1, []), (2, .getstatic 1053, 3, [2181]), (5, .invokestatic 1059, 3, [237, 2183, 2185, 1015, 3, 2184]), (8, .pop, 1, []), (9, .return_, 1, [])])
def zm_236 : zM := (yJ1_charAt_3b067, cJ1_charAt_3b067, 2, (some .char), 2, 43, [(0, .iload_n 1, 1, []), (1, .aload_n 0, 1, []), (2, .arraylength, 1, []), (3, .invokestatic 9, 3, [235, 2178, 2180, 1013, 2, 2179]), (6, .aload_n 0, 1, []), (7, .iload_n 1, 1, []), (8, .baload, 1, []), (9, .sipush 255, 3, []), (12, .iand, 1, []), (13, .i2c, 1, []), (14, .ireturn, 1, [])])
def zm_237 : zM := (yJ3_checkIndex_8e157, cJ3_checkIndex_8e157, 3, (some .int), 0, 0, [(0, .iload_n 0, 1, []), (1, .ifCond .lt 8, 3, [9]), (4, .iload_n 0, 1, []), (5, .iload_n 1, 1, []), (6, .if_icmp .lt 10, 3, [16]), (9, .aload_n 2, 1, []), (10, .iload_n 0, 1, []), (11, .iload_n 1, 1, []), (12, .invokestatic 95, 3, [9999]), (15, .athrow, 1, []), (16, .iload_n 0, 1, []), (17, .ireturn, 1, [])])
def zms_0 : List zM := [zm_0, zm_1, zm_2, zm_3, zm_4, zm_5, zm_6, zm_7, zm_8, zm_9, zm_10, zm_11, zm_12, zm_13, zm_14, zm_15]
def zms_1 : List zM := [zm_16, zm_17, zm_18, zm_19, zm_20, zm_21, zm_22, zm_23, zm_24, zm_25, zm_26, zm_27, zm_28, zm_29, zm_30, zm_31]
def zms_2 : List zM := [zm_32, zm_33, zm_34, zm_35, zm_36, zm_37, zm_38, zm_39, zm_40, zm_41, zm_42, zm_43, zm_44, zm_45, zm_46, zm_47]
def zms_3 : List zM := [zm_48, zm_49, zm_50, zm_51, zm_52, zm_53, zm_54, zm_55, zm_56, zm_57, zm_58, zm_59, zm_60, zm_61, zm_62, zm_63]
def zms_4 : List zM := [zm_64, zm_65, zm_66, zm_67, zm_68, zm_69, zm_70, zm_71, zm_72, zm_73, zm_74, zm_75, zm_76, zm_77, zm_78, zm_79]
def zms_5 : List zM := [zm_80, zm_81, zm_82, zm_83, zm_84, zm_85, zm_86, zm_87, zm_88, zm_89, zm_90, zm_91, zm_92, zm_93, zm_94, zm_95]
def zms_6 : List zM := [zm_96, zm_97, zm_98, zm_99, zm_100, zm_101, zm_102, zm_103, zm_104, zm_105, zm_106, zm_107, zm_108, zm_109, zm_110, zm_111]
def zms_7 : List zM := [zm_112, zm_113, zm_114, zm_115, zm_116, zm_117, zm_118, zm_119, zm_120, zm_121, zm_122, zm_123, zm_124, zm_125, zm_126, zm_127]
def zms_8 : List zM := [zm_128, zm_129, zm_130, zm_131, zm_132, zm_133, zm_134, zm_135, zm_136, zm_137, zm_138, zm_139, zm_140, zm_141, zm_142, zm_143]
def zms_9 : List zM := [zm_144, zm_145, zm_146, zm_147, zm_148, zm_149, zm_150, zm_151, zm_152, zm_153, zm_154, zm_155, zm_156, zm_157, zm_158, zm_159]
def zms_10 : List zM := [zm_160, zm_161, zm_162, zm_163, zm_164, zm_165, zm_166, zm_167, zm_168, zm_169, zm_170, zm_171, zm_172, zm_173, zm_174, zm_175]
def zms_11 : List zM := [zm_176, zm_177, zm_178, zm_179, zm_180, zm_181, zm_182, zm_183, zm_184, zm_185, zm_186, zm_187, zm_188, zm_189, zm_190, zm_191]
def zms_12 : List zM := [zm_192, zm_193, zm_194, zm_195, zm_196, zm_197, zm_198, zm_199, zm_200, zm_201, zm_202, zm_203, zm_204, zm_205, zm_206, zm_207]
def zms_13 : List zM := [zm_208, zm_209, zm_210, zm_211, zm_212, zm_213, zm_214, zm_215, zm_216, zm_217, zm_218, zm_219, zm_220, zm_221, zm_222, zm_223]
def zms_14 : List zM := [zm_224, zm_225, zm_226, zm_227, zm_228, zm_229, zm_230, zm_231, zm_232, zm_233, zm_234, zm_235, zm_236, zm_237]
def zms : List zM := zms_0 ++ (zms_1 ++ (zms_2 ++ (zms_3 ++ (zms_4 ++ (zms_5 ++ (zms_6 ++ (zms_7 ++ (zms_8 ++ (zms_9 ++ (zms_10 ++ (zms_11 ++ (zms_12 ++ (zms_13 ++ (zms_14))))))))))))))
end
section
def zfind : Nat → List zE → Option (Instr × Nat × List Nat)
  | _, [] => none
  | pc, (q, r) :: t => if pc = q then some r else zfind pc t
def zmOf (mid : Nat) : zM := zms.getD mid zm_0
abbrev zy (mid : Nat) : MethodName := (zmOf mid).1
abbrev zb (mid : Nat) : ByteArray := (zmOf mid).2.1
abbrev zL (mid : Nat) : Nat := (zmOf mid).2.2.1
abbrev zr (mid : Nat) : Option FieldType := (zmOf mid).2.2.2.1
abbrev zf (mid : Nat) : Nat := (zmOf mid).2.2.2.2.1
abbrev zq (mid : Nat) : Nat := (zmOf mid).2.2.2.2.2.1
def zcode (mid pc : Nat) : Option (Instr × Nat × List Nat) := zfind pc (zmOf mid).2.2.2.2.2.2
/-- the tables' words that stay under warmer tables -/
def zbig : List Cond := lw_tbl.filter goodWord
def zTab (j : Nat) : List Cond := match j with
  | 0 => k2_sels lw_privs
  | 1 => tables_1_1
  | 2 => tables_1_2
  | 3 => tables_1_3
  | 4 => tables_1_4
  | 5 => tables_1_5
  | 6 => tables_1_6
  | 7 => tables_1_7
  | _ => []
theorem zTab_mem {j : Nat} {w : Cond} (h : w ∈ zTab j) : w ∈ lw_tbl := by
  unfold lw_tbl tables_1
  simp only [List.mem_append]
  unfold zTab at h
  split at h
  · exact Or.inl h
  · exact Or.inr (Or.inl h)
  · exact Or.inr (Or.inr (Or.inl h))
  · exact Or.inr (Or.inr (Or.inr (Or.inl h)))
  · exact Or.inr (Or.inr (Or.inr (Or.inr (Or.inl h))))
  · exact Or.inr (Or.inr (Or.inr (Or.inr (Or.inr (Or.inl h)))))
  · exact Or.inr (Or.inr (Or.inr (Or.inr (Or.inr (Or.inr (Or.inl h))))))
  · exact Or.inr (Or.inr (Or.inr (Or.inr (Or.inr (Or.inr (Or.inr h))))))
  · cases h
def zHasA (k : Nat) (w : Cond) : Bool := decide ((zTab (k / 1000))[k % 1000]? = some w)
theorem zHasA_mem {k : Nat} {w : Cond} (h : zHasA k w = true) : w ∈ lw_tbl := zTab_mem (List.mem_of_getElem? (of_decide_eq_true h))
def zHas (k : Nat) (w : Cond) : Bool := zHasA k w && goodWord w
theorem zHas_mem {k : Nat} {w : Cond} (h : zHas k w = true) : w ∈ zbig := by
  simp only [zHas, Bool.and_eq_true] at h
  exact List.mem_filter.mpr ⟨zHasA_mem h.1, h.2⟩
def zcl (ci : Nat) : vw_C := vwCl.getD ci (RX0, TX0, 4)
def zFld (own : String) (idx ci k h : Nat) : Bool := decide (ci < 12) && (decide (k < (zcl ci).2.2) && zHas h (.fieldLink own idx ((zcl ci).2.1 k).1 ((zcl ci).2.1 k).2.1 ((zcl ci).2.1 k).2.2.1))
/-- a call's callee: its words, and that it fits the caller's room -/
def zCal (own : String) (fr lo : Nat) (a : List Nat) : Bool :=
  zHas (a.getD 2 0) (.code (zy (a.getD 0 0)) (zb (a.getD 0 0)) (zL (a.getD 0 0)) (zr (a.getD 0 0))) && (zHas (a.getD 3 0) (.initialized (zy (a.getD 0 0)).cls) &&
  (decide ((zy (a.getD 0 0)).cls ≠ "java/lang/invoke/MethodHandle") && (decide ((zy (a.getD 0 0)).cls ≠ "java/lang/invoke/VarHandle") && (decide ((parseMethodDescriptor (zy (a.getD 0 0)).desc).map (fun d => d.parameters.length) = some (a.getD 4 0)) &&
  (decide (zf (a.getD 0 0) + 1 ≤ fr) && decide (8 + (zL (a.getD 0 0) + 11) + zq (a.getD 0 0) ≤ lo))))))
def zNest (y : MethodName) (own : String) (idx h : Nat) : Bool := match (zTab (h / 1000))[h % 1000]? with
  | some (.methodLinkNest o i y2 _) => decide (o = own) && (decide (i = idx) && decide (y2 = y))
  | _ => false
def zCkI (own name : String) (fr lo pc : Nat) (i : Instr) (a : List Nat) : Bool := match i with
  | .goto off => decide ((pc : Int) + off = (a.getD 0 0 : Nat))
  | .ifCond _ off => decide ((pc : Int) + off = (a.getD 0 0 : Nat))
  | .if_icmp _ off => decide ((pc : Int) + off = (a.getD 0 0 : Nat))
  | .ldc idx => if a.length = 2 then zHas (a.getD 0 0) (.constant own idx (Int32.ofNat (a.getD 1 0))) else true
  | .ldc_w idx => zHas (a.getD 0 0) (.constant own idx (Int32.ofNat (a.getD 1 0)))
  | .ldc2_w idx => zHas (a.getD 0 0) (.constantLong own idx (Int64.ofNat (a.getD 1 0)))
  | .getfield idx => if a.getD 0 0 = 99 then true else zFld own idx (a.getD 0 0) (a.getD 1 0) (a.getD 2 0)
  | .putfield idx => zFld own idx (a.getD 0 0) (a.getD 1 0) (a.getD 2 0) && (decide (((zcl (a.getD 0 0)).2.1 (a.getD 1 0)).2.2.2 = false) || (decide (name = "<init>") && decide (((zcl (a.getD 0 0)).2.1 (a.getD 1 0)).1 = own)))
  | .new idx => decide (a.getD 0 0 < 12) && (zHas (a.getD 1 0) (.classLink own idx (zcl (a.getD 0 0)).1) && (zHas (a.getD 2 0) (.instantiable (zcl (a.getD 0 0)).1 (zcl (a.getD 0 0)).2.2) && zHas (a.getD 3 0) (.initialized (zcl (a.getD 0 0)).1)))
  | .newarray t => zHas (a.getD 0 0) (.arrayClass (newarray.typeOf t))
  | .anewarray idx => decide (a.getD 0 0 < 12) && (zHas (a.getD 1 0) (.classLink own idx (zcl (a.getD 0 0)).1) && zHasA (a.getD 2 0) (.arrayOver (.object (zcl (a.getD 0 0)).1)))
  | .invokevirtual idx => decide (a.getD 0 0 = 9999) || (zCal own fr lo a && (zHas (a.getD 1 0) (.methodLink own idx (zy (a.getD 0 0))) && (zHas (a.getD 5 0) (.instanceMethod (zy (a.getD 0 0))) && zHas (a.getD 6 0) (.selects (zy (a.getD 0 0)).cls (zy (a.getD 0 0)) (zy (a.getD 0 0))))))
  | .invokestatic idx => if a.getD 0 0 = 9999 then true else if a.getD 0 0 = 1000 then decide (1 ≤ fr) && (decide (21 ≤ lo) && (zHas (a.getD 1 0) (.methodLink own idx Lib.Math.max.name) && (zHas (a.getD 2 0) (.static Lib.Math.max.name) && (zHas (a.getD 3 0) (.initialized "java/lang/Math") && zHas (a.getD 4 0) (.code Lib.Math.max.name Lib.Math.max.code 2 (some .int))))))
      else if a.getD 0 0 = 1001 then decide (1 ≤ fr) && (decide (21 ≤ lo) && (zHas (a.getD 1 0) (.methodLink own idx Lib.Math.min.name) && (zHas (a.getD 2 0) (.static Lib.Math.min.name) && (zHas (a.getD 3 0) (.initialized "java/lang/Math") && zHas (a.getD 4 0) (.code Lib.Math.min.name Lib.Math.min.code 2 (some .int))))))
      else if a.getD 0 0 = 1002 then decide (1 ≤ fr) && (decide (26 ≤ lo) && (zHas (a.getD 1 0) (.methodLink own idx arraycopyName) && (zHas (a.getD 2 0) (.native arraycopyName) && (zHas (a.getD 3 0) (.static arraycopyName) && zHas (a.getD 4 0) (.initialized "java/lang/System")))))
      else zCal own fr lo a && (zHas (a.getD 1 0) (.methodLink own idx (zy (a.getD 0 0))) && zHas (a.getD 5 0) (.static (zy (a.getD 0 0))))
  | .invokespecial idx => if a.getD 0 0 = 1003 then decide (1 ≤ fr) && (decide (20 ≤ lo) && (zHas (a.getD 1 0) (.methodLink own idx objectInit) && (zHas (a.getD 2 0) (.instanceMethod objectInit) && zHas (a.getD 3 0) (.code objectInit ⟨#[0xb1]⟩ 1 none))))
      else zCal own fr lo a && ((if a.getD 6 0 = 1 then zNest (zy (a.getD 0 0)) own idx (a.getD 1 0) else zHas (a.getD 1 0) (.methodLink own idx (zy (a.getD 0 0)))) && (zHas (a.getD 5 0) (.instanceMethod (zy (a.getD 0 0))) && (decide ((zy (a.getD 0 0)).name = "<init>") && decide (zr (a.getD 0 0) = none))))
  | _ => true
def zCkE (m : zM) (e : zE) : Bool := decide (decode m.2.1 e.1 = .ok (e.2.1, e.2.2.1)) && zCkI m.1.cls m.1.name m.2.2.2.2.1 m.2.2.2.2.2.1 e.1 e.2.1 e.2.2.2
def zCkM (m : zM) : Bool := m.2.2.2.2.2.2.all (zCkE m)
end
section
theorem zok_0 : zCkM zm_0 = true := by decide +kernel
theorem zok_1 : zCkM zm_1 = true := by decide +kernel
theorem zok_2_0 : ze_2_0.all (zCkE zm_2) = true := by decide +kernel
theorem zok_2_1 : ze_2_1.all (zCkE zm_2) = true := by decide +kernel
theorem zok_2 : zCkM zm_2 = true := by
  show List.all ((ze_2_0 ++ (ze_2_1))) (zCkE zm_2) = true
  simp only [List.all_append, Bool.and_eq_true]
  exact ⟨zok_2_0, zok_2_1⟩
theorem zok_3 : zCkM zm_3 = true := by decide +kernel
theorem zok_4 : zCkM zm_4 = true := by decide +kernel
theorem zok_5 : zCkM zm_5 = true := by decide +kernel
theorem zok_6_0 : ze_6_0.all (zCkE zm_6) = true := by decide +kernel
theorem zok_6_1 : ze_6_1.all (zCkE zm_6) = true := by decide +kernel
theorem zok_6 : zCkM zm_6 = true := by
  show List.all ((ze_6_0 ++ (ze_6_1))) (zCkE zm_6) = true
  simp only [List.all_append, Bool.and_eq_true]
  exact ⟨zok_6_0, zok_6_1⟩
theorem zok_7 : zCkM zm_7 = true := by decide +kernel
theorem zok_8 : zCkM zm_8 = true := by decide +kernel
theorem zok_9 : zCkM zm_9 = true := by decide +kernel
theorem zok_10 : zCkM zm_10 = true := by decide +kernel
theorem zok_11 : zCkM zm_11 = true := by decide +kernel
theorem zok_12 : zCkM zm_12 = true := by decide +kernel
theorem zok_13 : zCkM zm_13 = true := by decide +kernel
theorem zok_14_0 : ze_14_0.all (zCkE zm_14) = true := by decide +kernel
theorem zok_14_1 : ze_14_1.all (zCkE zm_14) = true := by decide +kernel
theorem zok_14 : zCkM zm_14 = true := by
  show List.all ((ze_14_0 ++ (ze_14_1))) (zCkE zm_14) = true
  simp only [List.all_append, Bool.and_eq_true]
  exact ⟨zok_14_0, zok_14_1⟩
theorem zok_15_0 : ze_15_0.all (zCkE zm_15) = true := by decide +kernel
theorem zok_15_1 : ze_15_1.all (zCkE zm_15) = true := by decide +kernel
theorem zok_15_2 : ze_15_2.all (zCkE zm_15) = true := by decide +kernel
theorem zok_15 : zCkM zm_15 = true := by
  show List.all ((ze_15_0 ++ (ze_15_1 ++ (ze_15_2)))) (zCkE zm_15) = true
  simp only [List.all_append, Bool.and_eq_true]
  exact ⟨zok_15_0, ⟨zok_15_1, zok_15_2⟩⟩
theorem zok_16_0 : ze_16_0.all (zCkE zm_16) = true := by decide +kernel
theorem zok_16_1 : ze_16_1.all (zCkE zm_16) = true := by decide +kernel
theorem zok_16 : zCkM zm_16 = true := by
  show List.all ((ze_16_0 ++ (ze_16_1))) (zCkE zm_16) = true
  simp only [List.all_append, Bool.and_eq_true]
  exact ⟨zok_16_0, zok_16_1⟩
theorem zok_17 : zCkM zm_17 = true := by decide +kernel
theorem zok_18_0 : ze_18_0.all (zCkE zm_18) = true := by decide +kernel
theorem zok_18_1 : ze_18_1.all (zCkE zm_18) = true := by decide +kernel
theorem zok_18_2 : ze_18_2.all (zCkE zm_18) = true := by decide +kernel
theorem zok_18 : zCkM zm_18 = true := by
  show List.all ((ze_18_0 ++ (ze_18_1 ++ (ze_18_2)))) (zCkE zm_18) = true
  simp only [List.all_append, Bool.and_eq_true]
  exact ⟨zok_18_0, ⟨zok_18_1, zok_18_2⟩⟩
theorem zok_19 : zCkM zm_19 = true := by decide +kernel
theorem zok_20 : zCkM zm_20 = true := by decide +kernel
theorem zok_21 : zCkM zm_21 = true := by decide +kernel
theorem zok_22 : zCkM zm_22 = true := by decide +kernel
theorem zok_23 : zCkM zm_23 = true := by decide +kernel
theorem zok_24 : zCkM zm_24 = true := by decide +kernel
theorem zok_25 : zCkM zm_25 = true := by decide +kernel
theorem zok_26_0 : ze_26_0.all (zCkE zm_26) = true := by decide +kernel
theorem zok_26_1 : ze_26_1.all (zCkE zm_26) = true := by decide +kernel
theorem zok_26 : zCkM zm_26 = true := by
  show List.all ((ze_26_0 ++ (ze_26_1))) (zCkE zm_26) = true
  simp only [List.all_append, Bool.and_eq_true]
  exact ⟨zok_26_0, zok_26_1⟩
theorem zok_27 : zCkM zm_27 = true := by decide +kernel
theorem zok_28 : zCkM zm_28 = true := by decide +kernel
theorem zok_29 : zCkM zm_29 = true := by decide +kernel
theorem zok_30 : zCkM zm_30 = true := by decide +kernel
theorem zok_31 : zCkM zm_31 = true := by decide +kernel
theorem zok_32 : zCkM zm_32 = true := by decide +kernel
theorem zok_33 : zCkM zm_33 = true := by decide +kernel
theorem zok_34 : zCkM zm_34 = true := by decide +kernel
theorem zok_35 : zCkM zm_35 = true := by decide +kernel
theorem zok_36 : zCkM zm_36 = true := by decide +kernel
theorem zok_37 : zCkM zm_37 = true := by decide +kernel
theorem zok_38 : zCkM zm_38 = true := by decide +kernel
theorem zok_39 : zCkM zm_39 = true := by decide +kernel
theorem zok_40 : zCkM zm_40 = true := by decide +kernel
theorem zok_41 : zCkM zm_41 = true := by decide +kernel
theorem zok_42 : zCkM zm_42 = true := by decide +kernel
theorem zok_43 : zCkM zm_43 = true := by decide +kernel
theorem zok_44 : zCkM zm_44 = true := by decide +kernel
theorem zok_45 : zCkM zm_45 = true := by decide +kernel
theorem zok_46 : zCkM zm_46 = true := by decide +kernel
theorem zok_47 : zCkM zm_47 = true := by decide +kernel
theorem zok_48 : zCkM zm_48 = true := by decide +kernel
theorem zok_49 : zCkM zm_49 = true := by decide +kernel
theorem zok_50 : zCkM zm_50 = true := by decide +kernel
theorem zok_51 : zCkM zm_51 = true := by decide +kernel
theorem zok_52 : zCkM zm_52 = true := by decide +kernel
theorem zok_53 : zCkM zm_53 = true := by decide +kernel
end
section
theorem zok_54 : zCkM zm_54 = true := by decide +kernel
theorem zok_55 : zCkM zm_55 = true := by decide +kernel
theorem zok_56 : zCkM zm_56 = true := by decide +kernel
theorem zok_57 : zCkM zm_57 = true := by decide +kernel
theorem zok_58 : zCkM zm_58 = true := by decide +kernel
theorem zok_59 : zCkM zm_59 = true := by decide +kernel
theorem zok_60 : zCkM zm_60 = true := by decide +kernel
theorem zok_61 : zCkM zm_61 = true := by decide +kernel
theorem zok_62 : zCkM zm_62 = true := by decide +kernel
theorem zok_63 : zCkM zm_63 = true := by decide +kernel
theorem zok_64 : zCkM zm_64 = true := by decide +kernel
theorem zok_65 : zCkM zm_65 = true := by decide +kernel
theorem zok_66 : zCkM zm_66 = true := by decide +kernel
theorem zok_67 : zCkM zm_67 = true := by decide +kernel
theorem zok_68 : zCkM zm_68 = true := by decide +kernel
theorem zok_69 : zCkM zm_69 = true := by decide +kernel
theorem zok_70_0 : ze_70_0.all (zCkE zm_70) = true := by decide +kernel
theorem zok_70_1 : ze_70_1.all (zCkE zm_70) = true := by decide +kernel
theorem zok_70_2 : ze_70_2.all (zCkE zm_70) = true := by decide +kernel
theorem zok_70 : zCkM zm_70 = true := by
  show List.all ((ze_70_0 ++ (ze_70_1 ++ (ze_70_2)))) (zCkE zm_70) = true
  simp only [List.all_append, Bool.and_eq_true]
  exact ⟨zok_70_0, ⟨zok_70_1, zok_70_2⟩⟩
theorem zok_71 : zCkM zm_71 = true := by decide +kernel
theorem zok_72 : zCkM zm_72 = true := by decide +kernel
theorem zok_73_0 : ze_73_0.all (zCkE zm_73) = true := by decide +kernel
theorem zok_73_1 : ze_73_1.all (zCkE zm_73) = true := by decide +kernel
theorem zok_73 : zCkM zm_73 = true := by
  show List.all ((ze_73_0 ++ (ze_73_1))) (zCkE zm_73) = true
  simp only [List.all_append, Bool.and_eq_true]
  exact ⟨zok_73_0, zok_73_1⟩
theorem zok_74 : zCkM zm_74 = true := by decide +kernel
theorem zok_75 : zCkM zm_75 = true := by decide +kernel
theorem zok_76 : zCkM zm_76 = true := by decide +kernel
theorem zok_77 : zCkM zm_77 = true := by decide +kernel
theorem zok_78_0 : ze_78_0.all (zCkE zm_78) = true := by decide +kernel
theorem zok_78_1 : ze_78_1.all (zCkE zm_78) = true := by decide +kernel
theorem zok_78 : zCkM zm_78 = true := by
  show List.all ((ze_78_0 ++ (ze_78_1))) (zCkE zm_78) = true
  simp only [List.all_append, Bool.and_eq_true]
  exact ⟨zok_78_0, zok_78_1⟩
theorem zok_79 : zCkM zm_79 = true := by decide +kernel
theorem zok_80 : zCkM zm_80 = true := by decide +kernel
theorem zok_81 : zCkM zm_81 = true := by decide +kernel
theorem zok_82 : zCkM zm_82 = true := by decide +kernel
theorem zok_83 : zCkM zm_83 = true := by decide +kernel
theorem zok_84 : zCkM zm_84 = true := by decide +kernel
theorem zok_85 : zCkM zm_85 = true := by decide +kernel
theorem zok_86 : zCkM zm_86 = true := by decide +kernel
theorem zok_87 : zCkM zm_87 = true := by decide +kernel
theorem zok_88 : zCkM zm_88 = true := by decide +kernel
theorem zok_89 : zCkM zm_89 = true := by decide +kernel
theorem zok_90 : zCkM zm_90 = true := by decide +kernel
theorem zok_91 : zCkM zm_91 = true := by decide +kernel
theorem zok_92 : zCkM zm_92 = true := by decide +kernel
theorem zok_93 : zCkM zm_93 = true := by decide +kernel
theorem zok_94 : zCkM zm_94 = true := by decide +kernel
theorem zok_95 : zCkM zm_95 = true := by decide +kernel
theorem zok_96 : zCkM zm_96 = true := by decide +kernel
theorem zok_97 : zCkM zm_97 = true := by decide +kernel
theorem zok_98 : zCkM zm_98 = true := by decide +kernel
theorem zok_99 : zCkM zm_99 = true := by decide +kernel
theorem zok_100 : zCkM zm_100 = true := by decide +kernel
theorem zok_101 : zCkM zm_101 = true := by decide +kernel
theorem zok_102 : zCkM zm_102 = true := by decide +kernel
theorem zok_103 : zCkM zm_103 = true := by decide +kernel
theorem zok_104 : zCkM zm_104 = true := by decide +kernel
theorem zok_105_0 : ze_105_0.all (zCkE zm_105) = true := by decide +kernel
theorem zok_105_1 : ze_105_1.all (zCkE zm_105) = true := by decide +kernel
theorem zok_105 : zCkM zm_105 = true := by
  show List.all ((ze_105_0 ++ (ze_105_1))) (zCkE zm_105) = true
  simp only [List.all_append, Bool.and_eq_true]
  exact ⟨zok_105_0, zok_105_1⟩
theorem zok_106 : zCkM zm_106 = true := by decide +kernel
theorem zok_107 : zCkM zm_107 = true := by decide +kernel
theorem zok_108 : zCkM zm_108 = true := by decide +kernel
theorem zok_109 : zCkM zm_109 = true := by decide +kernel
theorem zok_110_0 : ze_110_0.all (zCkE zm_110) = true := by decide +kernel
theorem zok_110_1 : ze_110_1.all (zCkE zm_110) = true := by decide +kernel
theorem zok_110 : zCkM zm_110 = true := by
  show List.all ((ze_110_0 ++ (ze_110_1))) (zCkE zm_110) = true
  simp only [List.all_append, Bool.and_eq_true]
  exact ⟨zok_110_0, zok_110_1⟩
theorem zok_111_0 : ze_111_0.all (zCkE zm_111) = true := by decide +kernel
theorem zok_111_1 : ze_111_1.all (zCkE zm_111) = true := by decide +kernel
end
section
theorem zok_111 : zCkM zm_111 = true := by
  show List.all ((ze_111_0 ++ (ze_111_1))) (zCkE zm_111) = true
  simp only [List.all_append, Bool.and_eq_true]
  exact ⟨zok_111_0, zok_111_1⟩
theorem zok_112_0 : ze_112_0.all (zCkE zm_112) = true := by decide +kernel
theorem zok_112_1 : ze_112_1.all (zCkE zm_112) = true := by decide +kernel
theorem zok_112 : zCkM zm_112 = true := by
  show List.all ((ze_112_0 ++ (ze_112_1))) (zCkE zm_112) = true
  simp only [List.all_append, Bool.and_eq_true]
  exact ⟨zok_112_0, zok_112_1⟩
theorem zok_113 : zCkM zm_113 = true := by decide +kernel
theorem zok_114 : zCkM zm_114 = true := by decide +kernel
theorem zok_115 : zCkM zm_115 = true := by decide +kernel
theorem zok_116_0 : ze_116_0.all (zCkE zm_116) = true := by decide +kernel
theorem zok_116_1 : ze_116_1.all (zCkE zm_116) = true := by decide +kernel
theorem zok_116_2 : ze_116_2.all (zCkE zm_116) = true := by decide +kernel
theorem zok_116 : zCkM zm_116 = true := by
  show List.all ((ze_116_0 ++ (ze_116_1 ++ (ze_116_2)))) (zCkE zm_116) = true
  simp only [List.all_append, Bool.and_eq_true]
  exact ⟨zok_116_0, ⟨zok_116_1, zok_116_2⟩⟩
theorem zok_117 : zCkM zm_117 = true := by decide +kernel
theorem zok_118 : zCkM zm_118 = true := by decide +kernel
theorem zok_119_0 : ze_119_0.all (zCkE zm_119) = true := by decide +kernel
theorem zok_119_1 : ze_119_1.all (zCkE zm_119) = true := by decide +kernel
theorem zok_119_2 : ze_119_2.all (zCkE zm_119) = true := by decide +kernel
theorem zok_119 : zCkM zm_119 = true := by
  show List.all ((ze_119_0 ++ (ze_119_1 ++ (ze_119_2)))) (zCkE zm_119) = true
  simp only [List.all_append, Bool.and_eq_true]
  exact ⟨zok_119_0, ⟨zok_119_1, zok_119_2⟩⟩
theorem zok_120 : zCkM zm_120 = true := by decide +kernel
theorem zok_121 : zCkM zm_121 = true := by decide +kernel
theorem zok_122 : zCkM zm_122 = true := by decide +kernel
theorem zok_123 : zCkM zm_123 = true := by decide +kernel
theorem zok_124 : zCkM zm_124 = true := by decide +kernel
theorem zok_125 : zCkM zm_125 = true := by decide +kernel
theorem zok_126_0 : ze_126_0.all (zCkE zm_126) = true := by decide +kernel
theorem zok_126_1 : ze_126_1.all (zCkE zm_126) = true := by decide +kernel
theorem zok_126_2 : ze_126_2.all (zCkE zm_126) = true := by decide +kernel
theorem zok_126 : zCkM zm_126 = true := by
  show List.all ((ze_126_0 ++ (ze_126_1 ++ (ze_126_2)))) (zCkE zm_126) = true
  simp only [List.all_append, Bool.and_eq_true]
  exact ⟨zok_126_0, ⟨zok_126_1, zok_126_2⟩⟩
theorem zok_127 : zCkM zm_127 = true := by decide +kernel
theorem zok_128 : zCkM zm_128 = true := by decide +kernel
theorem zok_129 : zCkM zm_129 = true := by decide +kernel
theorem zok_130_0 : ze_130_0.all (zCkE zm_130) = true := by decide +kernel
theorem zok_130_1 : ze_130_1.all (zCkE zm_130) = true := by decide +kernel
theorem zok_130_2 : ze_130_2.all (zCkE zm_130) = true := by decide +kernel
theorem zok_130 : zCkM zm_130 = true := by
  show List.all ((ze_130_0 ++ (ze_130_1 ++ (ze_130_2)))) (zCkE zm_130) = true
  simp only [List.all_append, Bool.and_eq_true]
  exact ⟨zok_130_0, ⟨zok_130_1, zok_130_2⟩⟩
theorem zok_131 : zCkM zm_131 = true := by decide +kernel
theorem zok_132 : zCkM zm_132 = true := by decide +kernel
theorem zok_133 : zCkM zm_133 = true := by decide +kernel
theorem zok_134_0 : ze_134_0.all (zCkE zm_134) = true := by decide +kernel
theorem zok_134_1 : ze_134_1.all (zCkE zm_134) = true := by decide +kernel
theorem zok_134 : zCkM zm_134 = true := by
  show List.all ((ze_134_0 ++ (ze_134_1))) (zCkE zm_134) = true
  simp only [List.all_append, Bool.and_eq_true]
  exact ⟨zok_134_0, zok_134_1⟩
theorem zok_135 : zCkM zm_135 = true := by decide +kernel
theorem zok_136 : zCkM zm_136 = true := by decide +kernel
theorem zok_137 : zCkM zm_137 = true := by decide +kernel
theorem zok_138 : zCkM zm_138 = true := by decide +kernel
theorem zok_139 : zCkM zm_139 = true := by decide +kernel
theorem zok_140 : zCkM zm_140 = true := by decide +kernel
theorem zok_141_0 : ze_141_0.all (zCkE zm_141) = true := by decide +kernel
theorem zok_141_1 : ze_141_1.all (zCkE zm_141) = true := by decide +kernel
theorem zok_141_2 : ze_141_2.all (zCkE zm_141) = true := by decide +kernel
theorem zok_141_3 : ze_141_3.all (zCkE zm_141) = true := by decide +kernel
theorem zok_141 : zCkM zm_141 = true := by
  show List.all ((ze_141_0 ++ (ze_141_1 ++ (ze_141_2 ++ (ze_141_3))))) (zCkE zm_141) = true
  simp only [List.all_append, Bool.and_eq_true]
  exact ⟨zok_141_0, ⟨zok_141_1, ⟨zok_141_2, zok_141_3⟩⟩⟩
theorem zok_142_0 : ze_142_0.all (zCkE zm_142) = true := by decide +kernel
theorem zok_142_1 : ze_142_1.all (zCkE zm_142) = true := by decide +kernel
theorem zok_142_2 : ze_142_2.all (zCkE zm_142) = true := by decide +kernel
theorem zok_142_3 : ze_142_3.all (zCkE zm_142) = true := by decide +kernel
theorem zok_142 : zCkM zm_142 = true := by
  show List.all ((ze_142_0 ++ (ze_142_1 ++ (ze_142_2 ++ (ze_142_3))))) (zCkE zm_142) = true
  simp only [List.all_append, Bool.and_eq_true]
  exact ⟨zok_142_0, ⟨zok_142_1, ⟨zok_142_2, zok_142_3⟩⟩⟩
theorem zok_143 : zCkM zm_143 = true := by decide +kernel
theorem zok_144 : zCkM zm_144 = true := by decide +kernel
theorem zok_145 : zCkM zm_145 = true := by decide +kernel
theorem zok_146_0 : ze_146_0.all (zCkE zm_146) = true := by decide +kernel
theorem zok_146_1 : ze_146_1.all (zCkE zm_146) = true := by decide +kernel
theorem zok_146_2 : ze_146_2.all (zCkE zm_146) = true := by decide +kernel
theorem zok_146 : zCkM zm_146 = true := by
  show List.all ((ze_146_0 ++ (ze_146_1 ++ (ze_146_2)))) (zCkE zm_146) = true
  simp only [List.all_append, Bool.and_eq_true]
  exact ⟨zok_146_0, ⟨zok_146_1, zok_146_2⟩⟩
theorem zok_147_0 : ze_147_0.all (zCkE zm_147) = true := by decide +kernel
theorem zok_147_1 : ze_147_1.all (zCkE zm_147) = true := by decide +kernel
theorem zok_147 : zCkM zm_147 = true := by
  show List.all ((ze_147_0 ++ (ze_147_1))) (zCkE zm_147) = true
  simp only [List.all_append, Bool.and_eq_true]
  exact ⟨zok_147_0, zok_147_1⟩
theorem zok_148 : zCkM zm_148 = true := by decide +kernel
theorem zok_149 : zCkM zm_149 = true := by decide +kernel
theorem zok_150 : zCkM zm_150 = true := by decide +kernel
theorem zok_151_0 : ze_151_0.all (zCkE zm_151) = true := by decide +kernel
end
section
theorem zok_151_1 : ze_151_1.all (zCkE zm_151) = true := by decide +kernel
theorem zok_151 : zCkM zm_151 = true := by
  show List.all ((ze_151_0 ++ (ze_151_1))) (zCkE zm_151) = true
  simp only [List.all_append, Bool.and_eq_true]
  exact ⟨zok_151_0, zok_151_1⟩
theorem zok_152_0 : ze_152_0.all (zCkE zm_152) = true := by decide +kernel
theorem zok_152_1 : ze_152_1.all (zCkE zm_152) = true := by decide +kernel
theorem zok_152_2 : ze_152_2.all (zCkE zm_152) = true := by decide +kernel
theorem zok_152 : zCkM zm_152 = true := by
  show List.all ((ze_152_0 ++ (ze_152_1 ++ (ze_152_2)))) (zCkE zm_152) = true
  simp only [List.all_append, Bool.and_eq_true]
  exact ⟨zok_152_0, ⟨zok_152_1, zok_152_2⟩⟩
theorem zok_153_0 : ze_153_0.all (zCkE zm_153) = true := by decide +kernel
theorem zok_153_1 : ze_153_1.all (zCkE zm_153) = true := by decide +kernel
theorem zok_153 : zCkM zm_153 = true := by
  show List.all ((ze_153_0 ++ (ze_153_1))) (zCkE zm_153) = true
  simp only [List.all_append, Bool.and_eq_true]
  exact ⟨zok_153_0, zok_153_1⟩
theorem zok_154 : zCkM zm_154 = true := by decide +kernel
theorem zok_155 : zCkM zm_155 = true := by decide +kernel
theorem zok_156 : zCkM zm_156 = true := by decide +kernel
theorem zok_157 : zCkM zm_157 = true := by decide +kernel
theorem zok_158 : zCkM zm_158 = true := by decide +kernel
theorem zok_159 : zCkM zm_159 = true := by decide +kernel
theorem zok_160 : zCkM zm_160 = true := by decide +kernel
theorem zok_161 : zCkM zm_161 = true := by decide +kernel
theorem zok_162 : zCkM zm_162 = true := by decide +kernel
theorem zok_163 : zCkM zm_163 = true := by decide +kernel
theorem zok_164 : zCkM zm_164 = true := by decide +kernel
theorem zok_165 : zCkM zm_165 = true := by decide +kernel
theorem zok_166 : zCkM zm_166 = true := by decide +kernel
theorem zok_167 : zCkM zm_167 = true := by decide +kernel
theorem zok_168 : zCkM zm_168 = true := by decide +kernel
theorem zok_169 : zCkM zm_169 = true := by decide +kernel
theorem zok_170 : zCkM zm_170 = true := by decide +kernel
theorem zok_171 : zCkM zm_171 = true := by decide +kernel
theorem zok_172 : zCkM zm_172 = true := by decide +kernel
theorem zok_173 : zCkM zm_173 = true := by decide +kernel
theorem zok_174 : zCkM zm_174 = true := by decide +kernel
theorem zok_175 : zCkM zm_175 = true := by decide +kernel
theorem zok_176 : zCkM zm_176 = true := by decide +kernel
theorem zok_177 : zCkM zm_177 = true := by decide +kernel
theorem zok_178 : zCkM zm_178 = true := by decide +kernel
theorem zok_179 : zCkM zm_179 = true := by decide +kernel
theorem zok_180 : zCkM zm_180 = true := by decide +kernel
theorem zok_181_0 : ze_181_0.all (zCkE zm_181) = true := by decide +kernel
theorem zok_181_1 : ze_181_1.all (zCkE zm_181) = true := by decide +kernel
theorem zok_181 : zCkM zm_181 = true := by
  show List.all ((ze_181_0 ++ (ze_181_1))) (zCkE zm_181) = true
  simp only [List.all_append, Bool.and_eq_true]
  exact ⟨zok_181_0, zok_181_1⟩
theorem zok_182 : zCkM zm_182 = true := by decide +kernel
theorem zok_183 : zCkM zm_183 = true := by decide +kernel
theorem zok_184 : zCkM zm_184 = true := by decide +kernel
theorem zok_185 : zCkM zm_185 = true := by decide +kernel
theorem zok_186 : zCkM zm_186 = true := by decide +kernel
theorem zok_187 : zCkM zm_187 = true := by decide +kernel
theorem zok_188 : zCkM zm_188 = true := by decide +kernel
theorem zok_189 : zCkM zm_189 = true := by decide +kernel
theorem zok_190 : zCkM zm_190 = true := by decide +kernel
theorem zok_191 : zCkM zm_191 = true := by decide +kernel
theorem zok_192_0 : ze_192_0.all (zCkE zm_192) = true := by decide +kernel
theorem zok_192_1 : ze_192_1.all (zCkE zm_192) = true := by decide +kernel
theorem zok_192 : zCkM zm_192 = true := by
  show List.all ((ze_192_0 ++ (ze_192_1))) (zCkE zm_192) = true
  simp only [List.all_append, Bool.and_eq_true]
  exact ⟨zok_192_0, zok_192_1⟩
theorem zok_193 : zCkM zm_193 = true := by decide +kernel
theorem zok_194 : zCkM zm_194 = true := by decide +kernel
theorem zok_195 : zCkM zm_195 = true := by decide +kernel
theorem zok_196 : zCkM zm_196 = true := by decide +kernel
theorem zok_197 : zCkM zm_197 = true := by decide +kernel
theorem zok_198 : zCkM zm_198 = true := by decide +kernel
theorem zok_199_0 : ze_199_0.all (zCkE zm_199) = true := by decide +kernel
theorem zok_199_1 : ze_199_1.all (zCkE zm_199) = true := by decide +kernel
theorem zok_199_2 : ze_199_2.all (zCkE zm_199) = true := by decide +kernel
theorem zok_199 : zCkM zm_199 = true := by
  show List.all ((ze_199_0 ++ (ze_199_1 ++ (ze_199_2)))) (zCkE zm_199) = true
  simp only [List.all_append, Bool.and_eq_true]
  exact ⟨zok_199_0, ⟨zok_199_1, zok_199_2⟩⟩
theorem zok_200_0 : ze_200_0.all (zCkE zm_200) = true := by decide +kernel
theorem zok_200_1 : ze_200_1.all (zCkE zm_200) = true := by decide +kernel
theorem zok_200 : zCkM zm_200 = true := by
  show List.all ((ze_200_0 ++ (ze_200_1))) (zCkE zm_200) = true
  simp only [List.all_append, Bool.and_eq_true]
  exact ⟨zok_200_0, zok_200_1⟩
theorem zok_201 : zCkM zm_201 = true := by decide +kernel
theorem zok_202_0 : ze_202_0.all (zCkE zm_202) = true := by decide +kernel
theorem zok_202_1 : ze_202_1.all (zCkE zm_202) = true := by decide +kernel
theorem zok_202_2 : ze_202_2.all (zCkE zm_202) = true := by decide +kernel
theorem zok_202 : zCkM zm_202 = true := by
  show List.all ((ze_202_0 ++ (ze_202_1 ++ (ze_202_2)))) (zCkE zm_202) = true
  simp only [List.all_append, Bool.and_eq_true]
  exact ⟨zok_202_0, ⟨zok_202_1, zok_202_2⟩⟩
end
section
theorem zok_203_0 : ze_203_0.all (zCkE zm_203) = true := by decide +kernel
theorem zok_203_1 : ze_203_1.all (zCkE zm_203) = true := by decide +kernel
theorem zok_203 : zCkM zm_203 = true := by
  show List.all ((ze_203_0 ++ (ze_203_1))) (zCkE zm_203) = true
  simp only [List.all_append, Bool.and_eq_true]
  exact ⟨zok_203_0, zok_203_1⟩
theorem zok_204 : zCkM zm_204 = true := by decide +kernel
theorem zok_205_0 : ze_205_0.all (zCkE zm_205) = true := by decide +kernel
theorem zok_205_1 : ze_205_1.all (zCkE zm_205) = true := by decide +kernel
theorem zok_205 : zCkM zm_205 = true := by
  show List.all ((ze_205_0 ++ (ze_205_1))) (zCkE zm_205) = true
  simp only [List.all_append, Bool.and_eq_true]
  exact ⟨zok_205_0, zok_205_1⟩
theorem zok_206 : zCkM zm_206 = true := by decide +kernel
theorem zok_207_0 : ze_207_0.all (zCkE zm_207) = true := by decide +kernel
theorem zok_207_1 : ze_207_1.all (zCkE zm_207) = true := by decide +kernel
theorem zok_207 : zCkM zm_207 = true := by
  show List.all ((ze_207_0 ++ (ze_207_1))) (zCkE zm_207) = true
  simp only [List.all_append, Bool.and_eq_true]
  exact ⟨zok_207_0, zok_207_1⟩
theorem zok_208_0 : ze_208_0.all (zCkE zm_208) = true := by decide +kernel
theorem zok_208_1 : ze_208_1.all (zCkE zm_208) = true := by decide +kernel
theorem zok_208 : zCkM zm_208 = true := by
  show List.all ((ze_208_0 ++ (ze_208_1))) (zCkE zm_208) = true
  simp only [List.all_append, Bool.and_eq_true]
  exact ⟨zok_208_0, zok_208_1⟩
theorem zok_209 : zCkM zm_209 = true := by decide +kernel
theorem zok_210_0 : ze_210_0.all (zCkE zm_210) = true := by decide +kernel
theorem zok_210_1 : ze_210_1.all (zCkE zm_210) = true := by decide +kernel
theorem zok_210 : zCkM zm_210 = true := by
  show List.all ((ze_210_0 ++ (ze_210_1))) (zCkE zm_210) = true
  simp only [List.all_append, Bool.and_eq_true]
  exact ⟨zok_210_0, zok_210_1⟩
theorem zok_211_0 : ze_211_0.all (zCkE zm_211) = true := by decide +kernel
theorem zok_211_1 : ze_211_1.all (zCkE zm_211) = true := by decide +kernel
theorem zok_211 : zCkM zm_211 = true := by
  show List.all ((ze_211_0 ++ (ze_211_1))) (zCkE zm_211) = true
  simp only [List.all_append, Bool.and_eq_true]
  exact ⟨zok_211_0, zok_211_1⟩
theorem zok_212_0 : ze_212_0.all (zCkE zm_212) = true := by decide +kernel
theorem zok_212_1 : ze_212_1.all (zCkE zm_212) = true := by decide +kernel
theorem zok_212 : zCkM zm_212 = true := by
  show List.all ((ze_212_0 ++ (ze_212_1))) (zCkE zm_212) = true
  simp only [List.all_append, Bool.and_eq_true]
  exact ⟨zok_212_0, zok_212_1⟩
theorem zok_213 : zCkM zm_213 = true := by decide +kernel
theorem zok_214 : zCkM zm_214 = true := by decide +kernel
theorem zok_215 : zCkM zm_215 = true := by decide +kernel
theorem zok_216_0 : ze_216_0.all (zCkE zm_216) = true := by decide +kernel
theorem zok_216_1 : ze_216_1.all (zCkE zm_216) = true := by decide +kernel
theorem zok_216_2 : ze_216_2.all (zCkE zm_216) = true := by decide +kernel
theorem zok_216 : zCkM zm_216 = true := by
  show List.all ((ze_216_0 ++ (ze_216_1 ++ (ze_216_2)))) (zCkE zm_216) = true
  simp only [List.all_append, Bool.and_eq_true]
  exact ⟨zok_216_0, ⟨zok_216_1, zok_216_2⟩⟩
theorem zok_217 : zCkM zm_217 = true := by decide +kernel
theorem zok_218 : zCkM zm_218 = true := by decide +kernel
theorem zok_219_0 : ze_219_0.all (zCkE zm_219) = true := by decide +kernel
theorem zok_219_1 : ze_219_1.all (zCkE zm_219) = true := by decide +kernel
theorem zok_219_2 : ze_219_2.all (zCkE zm_219) = true := by decide +kernel
theorem zok_219 : zCkM zm_219 = true := by
  show List.all ((ze_219_0 ++ (ze_219_1 ++ (ze_219_2)))) (zCkE zm_219) = true
  simp only [List.all_append, Bool.and_eq_true]
  exact ⟨zok_219_0, ⟨zok_219_1, zok_219_2⟩⟩
theorem zok_220 : zCkM zm_220 = true := by decide +kernel
theorem zok_221 : zCkM zm_221 = true := by decide +kernel
theorem zok_222 : zCkM zm_222 = true := by decide +kernel
theorem zok_223 : zCkM zm_223 = true := by decide +kernel
theorem zok_224 : zCkM zm_224 = true := by decide +kernel
theorem zok_225_0 : ze_225_0.all (zCkE zm_225) = true := by decide +kernel
theorem zok_225_1 : ze_225_1.all (zCkE zm_225) = true := by decide +kernel
theorem zok_225 : zCkM zm_225 = true := by
  show List.all ((ze_225_0 ++ (ze_225_1))) (zCkE zm_225) = true
  simp only [List.all_append, Bool.and_eq_true]
  exact ⟨zok_225_0, zok_225_1⟩
theorem zok_226_0 : ze_226_0.all (zCkE zm_226) = true := by decide +kernel
theorem zok_226_1 : ze_226_1.all (zCkE zm_226) = true := by decide +kernel
theorem zok_226_2 : ze_226_2.all (zCkE zm_226) = true := by decide +kernel
theorem zok_226_3 : ze_226_3.all (zCkE zm_226) = true := by decide +kernel
theorem zok_226 : zCkM zm_226 = true := by
  show List.all ((ze_226_0 ++ (ze_226_1 ++ (ze_226_2 ++ (ze_226_3))))) (zCkE zm_226) = true
  simp only [List.all_append, Bool.and_eq_true]
  exact ⟨zok_226_0, ⟨zok_226_1, ⟨zok_226_2, zok_226_3⟩⟩⟩
theorem zok_227 : zCkM zm_227 = true := by decide +kernel
theorem zok_228 : zCkM zm_228 = true := by decide +kernel
theorem zok_229_0 : ze_229_0.all (zCkE zm_229) = true := by decide +kernel
theorem zok_229_1 : ze_229_1.all (zCkE zm_229) = true := by decide +kernel
theorem zok_229_2 : ze_229_2.all (zCkE zm_229) = true := by decide +kernel
theorem zok_229_3 : ze_229_3.all (zCkE zm_229) = true := by decide +kernel
theorem zok_229_4 : ze_229_4.all (zCkE zm_229) = true := by decide +kernel
theorem zok_229_5 : ze_229_5.all (zCkE zm_229) = true := by decide +kernel
theorem zok_229_6 : ze_229_6.all (zCkE zm_229) = true := by decide +kernel
theorem zok_229_7 : ze_229_7.all (zCkE zm_229) = true := by decide +kernel
theorem zok_229_8 : ze_229_8.all (zCkE zm_229) = true := by decide +kernel
theorem zok_229_9 : ze_229_9.all (zCkE zm_229) = true := by decide +kernel
theorem zok_229_10 : ze_229_10.all (zCkE zm_229) = true := by decide +kernel
theorem zok_229_11 : ze_229_11.all (zCkE zm_229) = true := by decide +kernel
theorem zok_229_12 : ze_229_12.all (zCkE zm_229) = true := by decide +kernel
theorem zok_229_13 : ze_229_13.all (zCkE zm_229) = true := by decide +kernel
theorem zok_229_14 : ze_229_14.all (zCkE zm_229) = true := by decide +kernel
theorem zok_229_15 : ze_229_15.all (zCkE zm_229) = true := by decide +kernel
theorem zok_229_16 : ze_229_16.all (zCkE zm_229) = true := by decide +kernel
theorem zok_229_17 : ze_229_17.all (zCkE zm_229) = true := by decide +kernel
end
section
theorem zok_229_18 : ze_229_18.all (zCkE zm_229) = true := by decide +kernel
theorem zok_229_19 : ze_229_19.all (zCkE zm_229) = true := by decide +kernel
theorem zok_229_20 : ze_229_20.all (zCkE zm_229) = true := by decide +kernel
theorem zok_229_21 : ze_229_21.all (zCkE zm_229) = true := by decide +kernel
theorem zok_229_22 : ze_229_22.all (zCkE zm_229) = true := by decide +kernel
theorem zok_229_23 : ze_229_23.all (zCkE zm_229) = true := by decide +kernel
theorem zok_229_24 : ze_229_24.all (zCkE zm_229) = true := by decide +kernel
theorem zok_229_25 : ze_229_25.all (zCkE zm_229) = true := by decide +kernel
theorem zok_229_26 : ze_229_26.all (zCkE zm_229) = true := by decide +kernel
theorem zok_229 : zCkM zm_229 = true := by
  show List.all ((ze_229_0 ++ (ze_229_1 ++ (ze_229_2 ++ (ze_229_3 ++ (ze_229_4 ++ (ze_229_5 ++ (ze_229_6 ++ (ze_229_7 ++ (ze_229_8 ++ (ze_229_9 ++ (ze_229_10 ++ (ze_229_11 ++ (ze_229_12 ++ (ze_229_13 ++ (ze_229_14 ++ (ze_229_15 ++ (ze_229_16 ++ (ze_229_17 ++ (ze_229_18 ++ (ze_229_19 ++ (ze_229_20 ++ (ze_229_21 ++ (ze_229_22 ++ (ze_229_23 ++ (ze_229_24 ++ (ze_229_25 ++ (ze_229_26)))))))))))))))))))))))))))) (zCkE zm_229) = true
  simp only [List.all_append, Bool.and_eq_true]
  exact ⟨zok_229_0, ⟨zok_229_1, ⟨zok_229_2, ⟨zok_229_3, ⟨zok_229_4, ⟨zok_229_5, ⟨zok_229_6, ⟨zok_229_7, ⟨zok_229_8, ⟨zok_229_9, ⟨zok_229_10, ⟨zok_229_11, ⟨zok_229_12, ⟨zok_229_13, ⟨zok_229_14, ⟨zok_229_15, ⟨zok_229_16, ⟨zok_229_17, ⟨zok_229_18, ⟨zok_229_19, ⟨zok_229_20, ⟨zok_229_21, ⟨zok_229_22, ⟨zok_229_23, ⟨zok_229_24, ⟨zok_229_25, zok_229_26⟩⟩⟩⟩⟩⟩⟩⟩⟩⟩⟩⟩⟩⟩⟩⟩⟩⟩⟩⟩⟩⟩⟩⟩⟩⟩
theorem zok_230 : zCkM zm_230 = true := by decide +kernel
theorem zok_231 : zCkM zm_231 = true := by decide +kernel
theorem zok_232 : zCkM zm_232 = true := by decide +kernel
theorem zok_233 : zCkM zm_233 = true := by decide +kernel
theorem zok_234 : zCkM zm_234 = true := by decide +kernel
theorem zok_235 : zCkM zm_235 = true := by decide +kernel
theorem zok_236 : zCkM zm_236 = true := by decide +kernel
theorem zok_237 : zCkM zm_237 = true := by decide +kernel
end
section
theorem zokg_0 : ∀ m ∈ zms_0, zCkM m = true := List.forall_mem_cons.mpr ⟨zok_0, List.forall_mem_cons.mpr ⟨zok_1, List.forall_mem_cons.mpr ⟨zok_2, List.forall_mem_cons.mpr ⟨zok_3, List.forall_mem_cons.mpr ⟨zok_4, List.forall_mem_cons.mpr ⟨zok_5, List.forall_mem_cons.mpr ⟨zok_6, List.forall_mem_cons.mpr ⟨zok_7, List.forall_mem_cons.mpr ⟨zok_8, List.forall_mem_cons.mpr ⟨zok_9, List.forall_mem_cons.mpr ⟨zok_10, List.forall_mem_cons.mpr ⟨zok_11, List.forall_mem_cons.mpr ⟨zok_12, List.forall_mem_cons.mpr ⟨zok_13, List.forall_mem_cons.mpr ⟨zok_14, List.forall_mem_cons.mpr ⟨zok_15, fun _ h => absurd h List.not_mem_nil⟩⟩⟩⟩⟩⟩⟩⟩⟩⟩⟩⟩⟩⟩⟩⟩
theorem zokg_1 : ∀ m ∈ zms_1, zCkM m = true := List.forall_mem_cons.mpr ⟨zok_16, List.forall_mem_cons.mpr ⟨zok_17, List.forall_mem_cons.mpr ⟨zok_18, List.forall_mem_cons.mpr ⟨zok_19, List.forall_mem_cons.mpr ⟨zok_20, List.forall_mem_cons.mpr ⟨zok_21, List.forall_mem_cons.mpr ⟨zok_22, List.forall_mem_cons.mpr ⟨zok_23, List.forall_mem_cons.mpr ⟨zok_24, List.forall_mem_cons.mpr ⟨zok_25, List.forall_mem_cons.mpr ⟨zok_26, List.forall_mem_cons.mpr ⟨zok_27, List.forall_mem_cons.mpr ⟨zok_28, List.forall_mem_cons.mpr ⟨zok_29, List.forall_mem_cons.mpr ⟨zok_30, List.forall_mem_cons.mpr ⟨zok_31, fun _ h => absurd h List.not_mem_nil⟩⟩⟩⟩⟩⟩⟩⟩⟩⟩⟩⟩⟩⟩⟩⟩
theorem zokg_2 : ∀ m ∈ zms_2, zCkM m = true := List.forall_mem_cons.mpr ⟨zok_32, List.forall_mem_cons.mpr ⟨zok_33, List.forall_mem_cons.mpr ⟨zok_34, List.forall_mem_cons.mpr ⟨zok_35, List.forall_mem_cons.mpr ⟨zok_36, List.forall_mem_cons.mpr ⟨zok_37, List.forall_mem_cons.mpr ⟨zok_38, List.forall_mem_cons.mpr ⟨zok_39, List.forall_mem_cons.mpr ⟨zok_40, List.forall_mem_cons.mpr ⟨zok_41, List.forall_mem_cons.mpr ⟨zok_42, List.forall_mem_cons.mpr ⟨zok_43, List.forall_mem_cons.mpr ⟨zok_44, List.forall_mem_cons.mpr ⟨zok_45, List.forall_mem_cons.mpr ⟨zok_46, List.forall_mem_cons.mpr ⟨zok_47, fun _ h => absurd h List.not_mem_nil⟩⟩⟩⟩⟩⟩⟩⟩⟩⟩⟩⟩⟩⟩⟩⟩
theorem zokg_3 : ∀ m ∈ zms_3, zCkM m = true := List.forall_mem_cons.mpr ⟨zok_48, List.forall_mem_cons.mpr ⟨zok_49, List.forall_mem_cons.mpr ⟨zok_50, List.forall_mem_cons.mpr ⟨zok_51, List.forall_mem_cons.mpr ⟨zok_52, List.forall_mem_cons.mpr ⟨zok_53, List.forall_mem_cons.mpr ⟨zok_54, List.forall_mem_cons.mpr ⟨zok_55, List.forall_mem_cons.mpr ⟨zok_56, List.forall_mem_cons.mpr ⟨zok_57, List.forall_mem_cons.mpr ⟨zok_58, List.forall_mem_cons.mpr ⟨zok_59, List.forall_mem_cons.mpr ⟨zok_60, List.forall_mem_cons.mpr ⟨zok_61, List.forall_mem_cons.mpr ⟨zok_62, List.forall_mem_cons.mpr ⟨zok_63, fun _ h => absurd h List.not_mem_nil⟩⟩⟩⟩⟩⟩⟩⟩⟩⟩⟩⟩⟩⟩⟩⟩
theorem zokg_4 : ∀ m ∈ zms_4, zCkM m = true := List.forall_mem_cons.mpr ⟨zok_64, List.forall_mem_cons.mpr ⟨zok_65, List.forall_mem_cons.mpr ⟨zok_66, List.forall_mem_cons.mpr ⟨zok_67, List.forall_mem_cons.mpr ⟨zok_68, List.forall_mem_cons.mpr ⟨zok_69, List.forall_mem_cons.mpr ⟨zok_70, List.forall_mem_cons.mpr ⟨zok_71, List.forall_mem_cons.mpr ⟨zok_72, List.forall_mem_cons.mpr ⟨zok_73, List.forall_mem_cons.mpr ⟨zok_74, List.forall_mem_cons.mpr ⟨zok_75, List.forall_mem_cons.mpr ⟨zok_76, List.forall_mem_cons.mpr ⟨zok_77, List.forall_mem_cons.mpr ⟨zok_78, List.forall_mem_cons.mpr ⟨zok_79, fun _ h => absurd h List.not_mem_nil⟩⟩⟩⟩⟩⟩⟩⟩⟩⟩⟩⟩⟩⟩⟩⟩
theorem zokg_5 : ∀ m ∈ zms_5, zCkM m = true := List.forall_mem_cons.mpr ⟨zok_80, List.forall_mem_cons.mpr ⟨zok_81, List.forall_mem_cons.mpr ⟨zok_82, List.forall_mem_cons.mpr ⟨zok_83, List.forall_mem_cons.mpr ⟨zok_84, List.forall_mem_cons.mpr ⟨zok_85, List.forall_mem_cons.mpr ⟨zok_86, List.forall_mem_cons.mpr ⟨zok_87, List.forall_mem_cons.mpr ⟨zok_88, List.forall_mem_cons.mpr ⟨zok_89, List.forall_mem_cons.mpr ⟨zok_90, List.forall_mem_cons.mpr ⟨zok_91, List.forall_mem_cons.mpr ⟨zok_92, List.forall_mem_cons.mpr ⟨zok_93, List.forall_mem_cons.mpr ⟨zok_94, List.forall_mem_cons.mpr ⟨zok_95, fun _ h => absurd h List.not_mem_nil⟩⟩⟩⟩⟩⟩⟩⟩⟩⟩⟩⟩⟩⟩⟩⟩
theorem zokg_6 : ∀ m ∈ zms_6, zCkM m = true := List.forall_mem_cons.mpr ⟨zok_96, List.forall_mem_cons.mpr ⟨zok_97, List.forall_mem_cons.mpr ⟨zok_98, List.forall_mem_cons.mpr ⟨zok_99, List.forall_mem_cons.mpr ⟨zok_100, List.forall_mem_cons.mpr ⟨zok_101, List.forall_mem_cons.mpr ⟨zok_102, List.forall_mem_cons.mpr ⟨zok_103, List.forall_mem_cons.mpr ⟨zok_104, List.forall_mem_cons.mpr ⟨zok_105, List.forall_mem_cons.mpr ⟨zok_106, List.forall_mem_cons.mpr ⟨zok_107, List.forall_mem_cons.mpr ⟨zok_108, List.forall_mem_cons.mpr ⟨zok_109, List.forall_mem_cons.mpr ⟨zok_110, List.forall_mem_cons.mpr ⟨zok_111, fun _ h => absurd h List.not_mem_nil⟩⟩⟩⟩⟩⟩⟩⟩⟩⟩⟩⟩⟩⟩⟩⟩
theorem zokg_7 : ∀ m ∈ zms_7, zCkM m = true := List.forall_mem_cons.mpr ⟨zok_112, List.forall_mem_cons.mpr ⟨zok_113, List.forall_mem_cons.mpr ⟨zok_114, List.forall_mem_cons.mpr ⟨zok_115, List.forall_mem_cons.mpr ⟨zok_116, List.forall_mem_cons.mpr ⟨zok_117, List.forall_mem_cons.mpr ⟨zok_118, List.forall_mem_cons.mpr ⟨zok_119, List.forall_mem_cons.mpr ⟨zok_120, List.forall_mem_cons.mpr ⟨zok_121, List.forall_mem_cons.mpr ⟨zok_122, List.forall_mem_cons.mpr ⟨zok_123, List.forall_mem_cons.mpr ⟨zok_124, List.forall_mem_cons.mpr ⟨zok_125, List.forall_mem_cons.mpr ⟨zok_126, List.forall_mem_cons.mpr ⟨zok_127, fun _ h => absurd h List.not_mem_nil⟩⟩⟩⟩⟩⟩⟩⟩⟩⟩⟩⟩⟩⟩⟩⟩
theorem zokg_8 : ∀ m ∈ zms_8, zCkM m = true := List.forall_mem_cons.mpr ⟨zok_128, List.forall_mem_cons.mpr ⟨zok_129, List.forall_mem_cons.mpr ⟨zok_130, List.forall_mem_cons.mpr ⟨zok_131, List.forall_mem_cons.mpr ⟨zok_132, List.forall_mem_cons.mpr ⟨zok_133, List.forall_mem_cons.mpr ⟨zok_134, List.forall_mem_cons.mpr ⟨zok_135, List.forall_mem_cons.mpr ⟨zok_136, List.forall_mem_cons.mpr ⟨zok_137, List.forall_mem_cons.mpr ⟨zok_138, List.forall_mem_cons.mpr ⟨zok_139, List.forall_mem_cons.mpr ⟨zok_140, List.forall_mem_cons.mpr ⟨zok_141, List.forall_mem_cons.mpr ⟨zok_142, List.forall_mem_cons.mpr ⟨zok_143, fun _ h => absurd h List.not_mem_nil⟩⟩⟩⟩⟩⟩⟩⟩⟩⟩⟩⟩⟩⟩⟩⟩
theorem zokg_9 : ∀ m ∈ zms_9, zCkM m = true := List.forall_mem_cons.mpr ⟨zok_144, List.forall_mem_cons.mpr ⟨zok_145, List.forall_mem_cons.mpr ⟨zok_146, List.forall_mem_cons.mpr ⟨zok_147, List.forall_mem_cons.mpr ⟨zok_148, List.forall_mem_cons.mpr ⟨zok_149, List.forall_mem_cons.mpr ⟨zok_150, List.forall_mem_cons.mpr ⟨zok_151, List.forall_mem_cons.mpr ⟨zok_152, List.forall_mem_cons.mpr ⟨zok_153, List.forall_mem_cons.mpr ⟨zok_154, List.forall_mem_cons.mpr ⟨zok_155, List.forall_mem_cons.mpr ⟨zok_156, List.forall_mem_cons.mpr ⟨zok_157, List.forall_mem_cons.mpr ⟨zok_158, List.forall_mem_cons.mpr ⟨zok_159, fun _ h => absurd h List.not_mem_nil⟩⟩⟩⟩⟩⟩⟩⟩⟩⟩⟩⟩⟩⟩⟩⟩
theorem zokg_10 : ∀ m ∈ zms_10, zCkM m = true := List.forall_mem_cons.mpr ⟨zok_160, List.forall_mem_cons.mpr ⟨zok_161, List.forall_mem_cons.mpr ⟨zok_162, List.forall_mem_cons.mpr ⟨zok_163, List.forall_mem_cons.mpr ⟨zok_164, List.forall_mem_cons.mpr ⟨zok_165, List.forall_mem_cons.mpr ⟨zok_166, List.forall_mem_cons.mpr ⟨zok_167, List.forall_mem_cons.mpr ⟨zok_168, List.forall_mem_cons.mpr ⟨zok_169, List.forall_mem_cons.mpr ⟨zok_170, List.forall_mem_cons.mpr ⟨zok_171, List.forall_mem_cons.mpr ⟨zok_172, List.forall_mem_cons.mpr ⟨zok_173, List.forall_mem_cons.mpr ⟨zok_174, List.forall_mem_cons.mpr ⟨zok_175, fun _ h => absurd h List.not_mem_nil⟩⟩⟩⟩⟩⟩⟩⟩⟩⟩⟩⟩⟩⟩⟩⟩
theorem zokg_11 : ∀ m ∈ zms_11, zCkM m = true := List.forall_mem_cons.mpr ⟨zok_176, List.forall_mem_cons.mpr ⟨zok_177, List.forall_mem_cons.mpr ⟨zok_178, List.forall_mem_cons.mpr ⟨zok_179, List.forall_mem_cons.mpr ⟨zok_180, List.forall_mem_cons.mpr ⟨zok_181, List.forall_mem_cons.mpr ⟨zok_182, List.forall_mem_cons.mpr ⟨zok_183, List.forall_mem_cons.mpr ⟨zok_184, List.forall_mem_cons.mpr ⟨zok_185, List.forall_mem_cons.mpr ⟨zok_186, List.forall_mem_cons.mpr ⟨zok_187, List.forall_mem_cons.mpr ⟨zok_188, List.forall_mem_cons.mpr ⟨zok_189, List.forall_mem_cons.mpr ⟨zok_190, List.forall_mem_cons.mpr ⟨zok_191, fun _ h => absurd h List.not_mem_nil⟩⟩⟩⟩⟩⟩⟩⟩⟩⟩⟩⟩⟩⟩⟩⟩
theorem zokg_12 : ∀ m ∈ zms_12, zCkM m = true := List.forall_mem_cons.mpr ⟨zok_192, List.forall_mem_cons.mpr ⟨zok_193, List.forall_mem_cons.mpr ⟨zok_194, List.forall_mem_cons.mpr ⟨zok_195, List.forall_mem_cons.mpr ⟨zok_196, List.forall_mem_cons.mpr ⟨zok_197, List.forall_mem_cons.mpr ⟨zok_198, List.forall_mem_cons.mpr ⟨zok_199, List.forall_mem_cons.mpr ⟨zok_200, List.forall_mem_cons.mpr ⟨zok_201, List.forall_mem_cons.mpr ⟨zok_202, List.forall_mem_cons.mpr ⟨zok_203, List.forall_mem_cons.mpr ⟨zok_204, List.forall_mem_cons.mpr ⟨zok_205, List.forall_mem_cons.mpr ⟨zok_206, List.forall_mem_cons.mpr ⟨zok_207, fun _ h => absurd h List.not_mem_nil⟩⟩⟩⟩⟩⟩⟩⟩⟩⟩⟩⟩⟩⟩⟩⟩
theorem zokg_13 : ∀ m ∈ zms_13, zCkM m = true := List.forall_mem_cons.mpr ⟨zok_208, List.forall_mem_cons.mpr ⟨zok_209, List.forall_mem_cons.mpr ⟨zok_210, List.forall_mem_cons.mpr ⟨zok_211, List.forall_mem_cons.mpr ⟨zok_212, List.forall_mem_cons.mpr ⟨zok_213, List.forall_mem_cons.mpr ⟨zok_214, List.forall_mem_cons.mpr ⟨zok_215, List.forall_mem_cons.mpr ⟨zok_216, List.forall_mem_cons.mpr ⟨zok_217, List.forall_mem_cons.mpr ⟨zok_218, List.forall_mem_cons.mpr ⟨zok_219, List.forall_mem_cons.mpr ⟨zok_220, List.forall_mem_cons.mpr ⟨zok_221, List.forall_mem_cons.mpr ⟨zok_222, List.forall_mem_cons.mpr ⟨zok_223, fun _ h => absurd h List.not_mem_nil⟩⟩⟩⟩⟩⟩⟩⟩⟩⟩⟩⟩⟩⟩⟩⟩
theorem zokg_14 : ∀ m ∈ zms_14, zCkM m = true := List.forall_mem_cons.mpr ⟨zok_224, List.forall_mem_cons.mpr ⟨zok_225, List.forall_mem_cons.mpr ⟨zok_226, List.forall_mem_cons.mpr ⟨zok_227, List.forall_mem_cons.mpr ⟨zok_228, List.forall_mem_cons.mpr ⟨zok_229, List.forall_mem_cons.mpr ⟨zok_230, List.forall_mem_cons.mpr ⟨zok_231, List.forall_mem_cons.mpr ⟨zok_232, List.forall_mem_cons.mpr ⟨zok_233, List.forall_mem_cons.mpr ⟨zok_234, List.forall_mem_cons.mpr ⟨zok_235, List.forall_mem_cons.mpr ⟨zok_236, List.forall_mem_cons.mpr ⟨zok_237, fun _ h => absurd h List.not_mem_nil⟩⟩⟩⟩⟩⟩⟩⟩⟩⟩⟩⟩⟩⟩
theorem zok_all : ∀ m ∈ zms, zCkM m = true := by
  unfold zms
  exact List.forall_mem_append.mpr ⟨zokg_0, List.forall_mem_append.mpr ⟨zokg_1, List.forall_mem_append.mpr ⟨zokg_2, List.forall_mem_append.mpr ⟨zokg_3, List.forall_mem_append.mpr ⟨zokg_4, List.forall_mem_append.mpr ⟨zokg_5, List.forall_mem_append.mpr ⟨zokg_6, List.forall_mem_append.mpr ⟨zokg_7, List.forall_mem_append.mpr ⟨zokg_8, List.forall_mem_append.mpr ⟨zokg_9, List.forall_mem_append.mpr ⟨zokg_10, List.forall_mem_append.mpr ⟨zokg_11, List.forall_mem_append.mpr ⟨zokg_12, List.forall_mem_append.mpr ⟨zokg_13, zokg_14⟩⟩⟩⟩⟩⟩⟩⟩⟩⟩⟩⟩⟩⟩
theorem zok_mid (mid : Nat) : zCkM (zmOf mid) = true := by
  unfold zmOf
  rw [List.getD_eq_getElem?_getD]
  cases h : zms[mid]? with
  | none => exact zok_all _ (List.mem_of_getElem? (i := 0) rfl)
  | some m => exact zok_all _ (List.mem_of_getElem? h)
theorem zfind_mem : ∀ (es : List zE) (pc : Nat) (r : Instr × Nat × List Nat), zfind pc es = some r → (pc, r) ∈ es
  | [], _, _, h => by cases h
  | (q, r0) :: t, pc, r, h => by
    unfold zfind at h
    by_cases e : pc = q
    · rw [if_pos e] at h
      cases h
      rw [e]
      exact List.mem_cons_self
    · rw [if_neg e] at h
      exact List.mem_cons_of_mem _ (zfind_mem t pc r h)
/-- what a row of the code tables says -/
def zIn (mid pc pc' : Nat) (i : Instr) (len : Nat) (a : List Nat) : Prop := zcode mid pc = some (i, len, a) ∧ pc + len = pc'
theorem zIn.ck {mid pc pc' : Nat} {i : Instr} {len : Nat} {a : List Nat} (h : zIn mid pc pc' i len a) : decode (zb mid) pc = .ok (i, len) ∧ zCkI (zy mid).cls (zy mid).name (zf mid) (zq mid) pc i a = true := by
  have h1 := List.all_eq_true.mp (zok_mid mid) _ (zfind_mem _ _ _ h.1)
  simp only [zCkE, Bool.and_eq_true, decide_eq_true_eq] at h1
  exact h1
theorem zIn.dec {mid pc pc' : Nat} {i : Instr} {len : Nat} {a : List Nat} (h : zIn mid pc pc' i len a) : decode (zb mid) pc = .ok (i, len) := h.ck.1
theorem zpl : ∀ mid, plainName (zy mid).cls = true := by
  have h : ∀ m ∈ zms, plainName m.1.cls = true := by decide +kernel
  intro mid
  show plainName (zmOf mid).1.cls = true
  unfold zmOf
  rw [List.getD_eq_getElem?_getD]
  cases h2 : zms[mid]? with
  | none => exact h _ (List.mem_of_getElem? (i := 0) rfl)
  | some m => exact h _ (List.mem_of_getElem? h2)
/-- the classes -/
def zty (ci : Nat) : Nat → FieldType := [tyX0, tyX1, tyX2, tyX3, tyX4, tyX5, tyX6, tyX7, tyX8, tyX9, tyX10, tyX11].getD ci tyX0
theorem zcl_ws : ∀ ci, ci < 12 → ∀ w ∈ u_ws (zcl ci).1 (zcl ci).2.1 (zcl ci).2.2, w ∈ zbig := by
  have h : ∀ ci, ci < 12 → (u_ws (zcl ci).1 (zcl ci).2.1 (zcl ci).2.2).all (fun w => decide (w ∈ lw_tbl) && goodWord w) = true := by decide +kernel
  intro ci hc w hw
  have h1 := List.all_eq_true.mp (h ci hc) w hw
  simp only [Bool.and_eq_true, decide_eq_true_eq] at h1
  exact List.mem_filter.mpr h1
theorem zcl_ty : ∀ ci, ci < 12 → ∀ k, k < (zcl ci).2.2 → parseFieldDescriptor ((zcl ci).2.1 k).2.2.1 = some (zty ci k) := by decide +kernel
theorem zcl_nm : ∀ ci, ci < 12 → ∀ a, a < (zcl ci).2.2 → ∀ b, b < (zcl ci).2.2 → a ≠ b → ((zcl ci).2.1 a).2.1 ≠ ((zcl ci).2.1 b).2.1 := by decide +kernel
theorem zcl_at : ∀ ci, ci < 12 → vwCl[ci]? = some (zcl ci) := by
  intro ci h
  unfold zcl
  rw [List.getD_eq_getElem?_getD, List.getElem?_eq_getElem h]
  rfl
theorem zcl_inst : ∀ ci, ci < 12 → ∃ n, Cond.instantiable (zcl ci).1 n ∈ lw_tbl := by
  have h : ∀ ci, ci < 12 → Cond.instantiable (zcl ci).1 (zcl ci).2.2 ∈ lw_tbl := by decide +kernel
  exact fun ci hc => ⟨_, h ci hc⟩
end
section
/-! THE WORLD: cells by their places behind a base, ints and references as functions of place and slot; a walk's point over it -/
abbrev zI : Type := Nat → Nat → Int32
abbrev zJ : Type := Nat → Nat → Int64
abbrev zR : Type := Nat → Nat → Option Nat
abbrev zT : Type := List (Nat × Nat)
abbrev zW : Type := zT × zI × zJ × zR
/-- what stands fixed: the numbers of classes and fields; where the first cell lies; the script: its cell, length, ints; the text constants and their bytes; a static -/
abbrev zG : Type := va_G × Nat × (Nat × Nat × (Nat → Int32)) × ((Nat → Nat) × (Nat → Nat)) × Option Nat
abbrev gD (G : zG) : va_G := G.1
abbrev gb (G : zG) : Nat := G.2.1
abbrev gsb (G : zG) : Nat := G.2.2.1.1
abbrev gsL (G : zG) : Nat := G.2.2.1.2.1
abbrev gxs (G : zG) : Nat → Int32 := G.2.2.1.2.2
abbrev gK (G : zG) : Nat → Nat := G.2.2.2.1.1
abbrev gV (G : zG) : Nat → Nat := G.2.2.2.1.2
abbrev gv (G : zG) : Option Nat := G.2.2.2.2
/-- places below a million are the run's own cells; a million is the script; then texts, their bytes, a static's value -/
def zrl (G : zG) : Value → Value
  | .ref k => if k < 1000000 then .ref (gb G + k) else if k = 1000000 then .ref (gsb G) else if k < 1000100 then .ref (gK G (k - 1000001)) else if k < 1000200 then .ref (gV G (k - 1000101)) else va_rf (gv G)
  | v => v
theorem zrl_cat (G : zG) (v : Value) : (zrl G v).category = v.category := by
  cases v with
  | ref k =>
    unfold zrl
    dsimp only
    split
    · rfl
    · split
      · rfl
      · split
        · rfl
        · split
          · rfl
          · cases gv G <;> rfl
  | _ => rfl
theorem zrl_ref (G : zG) {k : Nat} (h : k < 1000000) : zrl G (.ref k) = .ref (gb G + k) := by
  show (if k < 1000000 then _ else _) = _
  rw [if_pos h]
theorem zrl_scr (G : zG) : zrl G (.ref 1000000) = .ref (gsb G) := rfl
def zfv (G : zG) (ci : Nat) (w : zW) (k j : Nat) : Value := match zty ci j with
  | .long => .long (w.2.2.1 k j)
  | .int => .int (w.2.1 k j)
  | .boolean => .int (w.2.1 k j)
  | _ => va_rf ((w.2.2.2 k j).map (fun q => gb G + q))
def zat (c : Nat) : FieldType := if c = 50 then .int else if c = 51 then .byte else if c = 52 then .boolean else .object (zcl (c - 53)).1
def zce (G : zG) (ac : Nat → ClassId) (w : zW) (k : Nat) (e : Nat × Nat) : va_E :=
  if e.1 < 12 then .inr (e.1, (List.range (zcl e.1).2.2).map (zfv G e.1 w k))
  else if e.1 < 53 then .inl (ac k, e.2, .inl (w.2.1 k))
  else .inl (ac k, e.2, .inr (.inr (.inr (.inr (fun j => (w.2.2.2 k j).map (fun q => gb G + q))))))
def zwl (G : zG) (ac : Nat → ClassId) (w : zW) : va_W := (List.range w.1.length).map (fun k => (gb G + k, zce G ac w k (w.1.getD k (0, 0))))
def zA (G : zG) : Nat → Prop := fun q => gb G ≤ q
theorem zwl_at {G : zG} {ac : Nat → ClassId} {w : zW} {k : Nat} {e : Nat × Nat} (h : w.1[k]? = some e) : (zwl G ac w)[k]? = some (gb G + k, zce G ac w k e) := by
  have hl := (List.getElem?_eq_some_iff.mp h).1
  unfold zwl
  rw [List.getElem?_map, List.getElem?_range hl]
  show some (gb G + k, zce G ac w k (w.1.getD k (0, 0))) = _
  rw [List.getD_eq_getElem?_getD, h]
  rfl
theorem zwl_inv {G : zG} {ac : Nat → ClassId} {w : zW} {k : Nat} {q : Nat × va_E} (h : (zwl G ac w)[k]? = some q) : k < w.1.length ∧ q.1 = gb G + k := by
  unfold zwl at h
  rw [List.getElem?_map] at h
  cases hr : (List.range w.1.length)[k]? with
  | none => rw [hr] at h; cases h
  | some i =>
    rw [hr] at h
    have hk := (List.getElem?_eq_some_iff.mp hr).1
    rw [List.length_range] at hk
    rw [List.getElem?_range hk] at hr
    cases hr
    cases h
    exact ⟨hk, rfl⟩
theorem zwl_D {G : zG} {ac : Nat → ClassId} {w : zW} : va_D (zA G) (zwl G ac w) := by
  refine ⟨fun i j p q hi hj hpq => ?_, fun k q hk => ?_⟩
  · have h1 := (zwl_inv hi).2
    have h2 := (zwl_inv hj).2
    omega
  · show gb G ≤ q.1
    rw [(zwl_inv hk).2]
    omega
/-- a cell of the world anew -/
theorem zwl_set {G : zG} {ac : Nat → ClassId} {w w' : zW} {k : Nat} {e : Nat × Nat} {x : va_E} (h : w.1[k]? = some e) (hT : w'.1 = w.1) (hx : zce G ac w' k e = x)
    (ho : ∀ q e', q ≠ k → w.1[q]? = some e' → zce G ac w' q e' = zce G ac w q e') : (zwl G ac w).set k (gb G + k, x) = zwl G ac w' := by
  have hl := (List.getElem?_eq_some_iff.mp h).1
  refine List.ext_getElem? fun i => ?_
  rcases Nat.lt_or_ge i w.1.length with hi | hi
  · have hw : w.1[i]? = some (w.1[i]) := List.getElem?_eq_getElem hi
    have hw' : w'.1[i]? = some (w.1[i]) := by rw [hT]; exact hw
    rw [zwl_at hw']
    by_cases e1 : i = k
    · subst e1
      rw [List.getElem?_set_self (by unfold zwl; simpa using hl)]
      rw [h] at hw
      have := Option.some.inj hw
      rw [← this, hx]
    · rw [List.getElem?_set_ne (Ne.symm e1), zwl_at hw, ho i _ e1 hw]
  · have n1 : (zwl G ac w')[i]? = none := by unfold zwl; simp [hT]; exact hi
    have n2 : ((zwl G ac w).set k (gb G + k, x))[i]? = none := by unfold zwl; simp; exact hi
    rw [n1, n2]
theorem zwl_push {G : zG} {ac : Nat → ClassId} {w w' : zW} {e : Nat × Nat} {x : va_E} (ac' : Nat → ClassId) (hT : w'.1 = w.1 ++ [e]) (hx : zce G ac' w' w.1.length e = x)
    (ho : ∀ q e', q < w.1.length → w.1[q]? = some e' → zce G ac' w' q e' = zce G ac w q e') : zwl G ac w ++ [(gb G + w.1.length, x)] = zwl G ac' w' := by
  have hz : (zwl G ac w).length = w.1.length := by unfold zwl; simp
  refine List.ext_getElem? fun i => ?_
  rcases Nat.lt_trichotomy i w.1.length with hi | hi | hi
  · have hw : w.1[i]? = some (w.1[i]) := List.getElem?_eq_getElem hi
    have hw' : w'.1[i]? = some (w.1[i]) := by rw [hT, List.getElem?_append_left hi]; exact hw
    rw [List.getElem?_append_left (by rw [hz]; exact hi), zwl_at hw, zwl_at hw', ho i _ hi hw]
  · subst hi
    have hw' : w'.1[w.1.length]? = some e := by rw [hT, List.getElem?_append_right (Nat.le_refl _), Nat.sub_self]; rfl
    rw [List.getElem?_append_right (by rw [hz]; exact Nat.le_refl _), zwl_at hw', hx, hz, Nat.sub_self]
    rfl
  · have n1 : (zwl G ac' w')[i]? = none := by unfold zwl; simp [hT]; omega
    have n2 : (zwl G ac w ++ [(gb G + w.1.length, x)])[i]? = none := by
      rw [List.getElem?_eq_none]
      rw [List.length_append, hz]
      simp
      omega
    rw [n1, n2]
/-- the tables: classes, and the arrays' classes -/
def zK (G : zG) (ac : Nat → ClassId) (w : zW) (U : State) : Prop := va_K (gD G) vwCl [] U ∧ ∀ (k : Nat) (e : Nat × Nat), w.1[k]? = some e → 12 ≤ e.1 → ArrOfT U (ac k) (zat e.1) ∧ va_RA U (ac k) (zat e.1)
theorem zK.moved {G : zG} {ac : Nat → ClassId} {w : zW} {u U : State} (hvm : u.vm.Alike U.vm) (h : zK G ac w u) : zK G ac w U :=
  ⟨va_K.moved hvm h.1, fun k e hk h12 => ⟨arrOfT_moved hvm (h.2 k e hk h12).1, (h.2 k e hk h12).2.moved hvm⟩⟩
theorem zK.one {G : zG} {ac : Nat → ClassId} {w : zW} {U : State} {k : Nat} {e : Nat × Nat} (h : zK G ac w U) (hk : w.1[k]? = some e) (h12 : 12 ≤ e.1) : va_K (gD G) vwCl [(ac k, zat e.1)] U := by
  refine ⟨h.1.1, fun i q hq => ?_⟩
  cases i with
  | zero => cases hq; exact h.2 k e hk h12
  | succ i => simp at hq
theorem zK.two {G : zG} {ac : Nat → ClassId} {w : zW} {U : State} {k k2 : Nat} {e e2 : Nat × Nat} (h : zK G ac w U) (hk : w.1[k]? = some e) (h12 : 12 ≤ e.1) (hk2 : w.1[k2]? = some e2) (h122 : 12 ≤ e2.1) : va_K (gD G) vwCl [(ac k, zat e.1), (ac k2, zat e2.1)] U := by
  refine ⟨h.1.1, fun i q hq => ?_⟩
  match i, hq with
  | 0, hq => cases hq; exact h.2 k e hk h12
  | 1, hq => cases hq; exact h.2 k2 e2 hk2 h122
  | i + 2, hq => simp at hq
/-- the text constants -/
def zslen : List Nat := [5, 6, 3, 7, 4, 4, 3, 4, 4]
def zsbyt : List (List Int32) := [[112, 108, 97, 105, 110], [115, 117, 108, 108, 101, 110], [110, 117, 110], [98, 114, 111, 116, 104, 101, 114], [104, 97, 116, 101], [98, 111, 116, 104], [112, 111, 116], [115, 108, 105, 112], [112, 108, 97, 110]]
def zsidx : List Nat := [94, 100, 102, 104, 106, 108, 110, 112, 114]
def zstx : List String := ["plain", "sullen", "nun", "brother", "hate", "both", "pot", "slip", "plan"]
/-- what lies outside the world and stays -/
def zS (G : zG) (U : State) (H : Heap) : Prop :=
  va_X (gsb G) (gsL G) (gxs G) U H ∧ gsb G < gb G ∧ gb G ≤ H.size ∧ vk_S 9 zslen zsbyt (gK G) (gV G) (zA G) U H ∧ va_Z "java/lang/String" "COMPACT_STRINGS" "Z" (.int 1) (zA G) U H ∧
  va_Z "jdk/internal/util/Preconditions" "SIOOBE_FORMATTER" "Ljava/util/function/BiFunction;" (va_rf (gv G)) (zA G) U H ∧ (∀ i, i < 9 → vk_R "SpoonHates$Reader" (zsidx.getD i 0) (zstx.getD i "") (gK G i) U) ∧
  (∀ (a : String) (i : Nat) (x : MethodName) (h : String), Cond.methodLinkNest a i x h ∈ lw_tbl → va_Nw (.methodLinkNest a i x h) U) ∧ ∀ C : String, Cond.arrayOver (.object C) ∈ lw_tbl → va_AO C U
theorem zS.moved {G : zG} {u U : State} {H0 H : Heap} (hW : u.WarmedH U.vm) (h : zS G u H0) (hz : H0.size ≤ H.size) (hk : ∀ q : Nat, q < H0.size → ¬ zA G q → H[q]? = H0[q]?) : zS G U H := by
  obtain ⟨h1, h2, h3, h4, h5, h6, h7, h8, h9⟩ := h
  have hv := hW.alike
  refine ⟨va_X.moved hv (h1.kept (hk _ (by omega) (fun z => by have z' : gb G ≤ gsb G := z; omega))), h2, by omega, vk_S.moved hv (h4.kept hk), va_Z.moved hv (h5.kept hk), va_Z.moved hv (h6.kept hk), fun i hi => (h7 i hi).warm hW, fun a i x hh hm => (h8 a i x hh hm).warmM hW, fun C hm => (h9 C hm).moved hv⟩
/-- the locals -/
def zas (G : zG) (lo : List (Option Value)) : List (Nat × Value) := (List.range lo.length).filterMap (fun i => (lo.getD i none).map (fun v => (i, zrl G v)))
theorem zas_mem {G : zG} {lo : List (Option Value)} {q : Nat × Value} : q ∈ zas G lo ↔ ∃ v, lo[q.1]? = some (some v) ∧ q.2 = zrl G v := by
  unfold zas
  rw [List.mem_filterMap]
  constructor
  · rintro ⟨i, hi, h⟩
    rw [List.getD_eq_getElem?_getD] at h
    have hi2 := List.mem_range.mp hi
    rw [List.getElem?_eq_getElem hi2] at h
    cases hv : lo[i] with
    | none => rw [hv] at h; cases h
    | some v =>
      rw [hv] at h
      cases h
      exact ⟨v, by rw [List.getElem?_eq_getElem hi2, hv], rfl⟩
  · rintro ⟨v, h1, h2⟩
    have hl := (List.getElem?_eq_some_iff.mp h1).1
    refine ⟨q.1, List.mem_range.mpr hl, ?_⟩
    rw [List.getD_eq_getElem?_getD, h1]
    show some (q.1, zrl G v) = some q
    rw [← h2]
def zLh (G : zG) (n : Nat) (lo : List (Option Value)) (ls : Array Slot) : Prop := lv_has ls n (zas G lo)
theorem zLh.at {G : zG} {n : Nat} {lo : List (Option Value)} {ls : Array Slot} {i : Nat} {v : Value} (h : zLh G n lo ls) (hi : lo[i]? = some (some v)) : ls[i]? = some (.val (zrl G v)) :=
  h.2.2 (i, zrl G v) (zas_mem.mpr ⟨v, hi, rfl⟩)
theorem zLh.sub {G : zG} {n : Nat} {lo lo' : List (Option Value)} {ls : Array Slot} (h : zLh G n lo ls) (hs : ∀ (i : Nat) (v : Value), lo'[i]? = some (some v) → lo[i]? = some (some v)) : zLh G n lo' ls :=
  ⟨h.1, h.2.1, fun q hq => by
    obtain ⟨v, h1, h2⟩ := zas_mem.mp hq
    rw [h2]
    exact h.at (hs _ _ h1)⟩
/-- what a store at i leaves of the locals below it: no long whose second half was there -/
def zkl (lo : List (Option Value)) (i : Nat) : List (Option Value) := match i with
  | 0 => lo
  | j + 1 => match lo.getD j none with
    | some (.long _) => lo.set j none
    | some (.double _) => lo.set j none
    | _ => lo
theorem zkl_at {lo : List (Option Value)} {i j : Nat} {v : Value} (h : (zkl lo i)[j]? = some (some v)) : lo[j]? = some (some v) ∧ ¬ (j + 1 = i ∧ v.category = 2) := by
  cases i with
  | zero => exact ⟨h, fun z => by omega⟩
  | succ k =>
    unfold zkl at h
    dsimp only at h
    split at h
    · by_cases e : j = k
      · subst e
        by_cases hl : j < lo.length
        · rw [List.getElem?_set_self hl] at h; cases h
        · rw [List.getElem?_eq_none (by simpa using hl)] at h; cases h
      · rw [List.getElem?_set_ne (Ne.symm e)] at h
        exact ⟨h, fun z => e (by omega)⟩
    · by_cases e : j = k
      · subst e
        by_cases hl : j < lo.length
        · rw [List.getElem?_set_self hl] at h; cases h
        · rw [List.getElem?_eq_none (by simpa using hl)] at h; cases h
      · rw [List.getElem?_set_ne (Ne.symm e)] at h
        exact ⟨h, fun z => e (by omega)⟩
    · rename_i n1 n2
      refine ⟨h, fun z => ?_⟩
      have e : j = k := by omega
      subst e
      have hg : lo.getD j none = some v := by rw [List.getD_eq_getElem?_getD, h]; rfl
      cases v with
      | long x => exact n1 x hg
      | double x => exact n2 x hg
      | _ => cases z.2
def zst (lo : List (Option Value)) (i : Nat) (v : Value) : List (Option Value) := (zkl lo i).set i (some v)
def zstL (lo : List (Option Value)) (i : Nat) (v : Value) : List (Option Value) := ((zkl lo i).set (i + 1) none).set i (some v)
theorem zLh.st {G : zG} {n : Nat} {lo : List (Option Value)} {ls' : Array Slot} {i : Nat} {v : Value} (h : lv_has ls' n ((i, zrl G v) :: (zas G lo).filter (fun q => !(q.1 == i) && !(q.1 + 1 == i && q.2.category == 2)))) : zLh G n (zst lo i v) ls' := by
  refine ⟨h.1, h.2.1, fun q hq => ?_⟩
  obtain ⟨u, h1, h2⟩ := zas_mem.mp hq
  by_cases e : q.1 = i
  · have hu : u = v := by
      unfold zst at h1
      rw [e] at h1
      by_cases hl : i < (zkl lo i).length
      · rw [List.getElem?_set_self hl] at h1
        exact (Option.some.inj (Option.some.inj h1)).symm
      · rw [List.getElem?_eq_none (by simpa using hl)] at h1; cases h1
    rw [h2, hu, e]
    exact h.2.2 (i, zrl G v) List.mem_cons_self
  · unfold zst at h1
    rw [List.getElem?_set_ne (Ne.symm e)] at h1
    obtain ⟨g1, g2⟩ := zkl_at h1
    refine h.2.2 q (List.mem_cons_of_mem _ (List.mem_filter.mpr ⟨zas_mem.mpr ⟨u, g1, h2⟩, ?_⟩))
    rw [h2, zrl_cat]
    simp only [Bool.and_eq_true, Bool.not_eq_true', beq_eq_false_iff_ne, Bool.and_eq_false_iff]
    refine ⟨e, ?_⟩
    by_cases a : q.1 + 1 = i
    · exact Or.inr fun b => g2 ⟨a, b⟩
    · exact Or.inl a
theorem zLh.stL {G : zG} {n : Nat} {lo : List (Option Value)} {ls' : Array Slot} {i : Nat} {v : Value} (h : lv_has ls' n ((i, zrl G v) :: (zas G lo).filter (fun q => !(q.1 == i) && (!(q.1 == i + 1) && !(q.1 + 1 == i && q.2.category == 2))))) : zLh G n (zstL lo i v) ls' := by
  refine ⟨h.1, h.2.1, fun q hq => ?_⟩
  obtain ⟨u, h1, h2⟩ := zas_mem.mp hq
  by_cases e : q.1 = i
  · have hu : u = v := by
      unfold zstL at h1
      rw [e] at h1
      by_cases hl : i < ((zkl lo i).set (i + 1) none).length
      · rw [List.getElem?_set_self hl] at h1
        exact (Option.some.inj (Option.some.inj h1)).symm
      · rw [List.getElem?_eq_none (by simpa using hl)] at h1; cases h1
    rw [h2, hu, e]
    exact h.2.2 (i, zrl G v) List.mem_cons_self
  · unfold zstL at h1
    rw [List.getElem?_set_ne (Ne.symm e)] at h1
    by_cases e2 : q.1 = i + 1
    · rw [e2] at h1
      by_cases hl : i + 1 < (zkl lo i).length
      · rw [List.getElem?_set_self hl] at h1; cases h1
      · rw [List.getElem?_eq_none (by simpa using hl)] at h1; cases h1
    · rw [List.getElem?_set_ne (Ne.symm e2)] at h1
      obtain ⟨g1, g2⟩ := zkl_at h1
      refine h.2.2 q (List.mem_cons_of_mem _ (List.mem_filter.mpr ⟨zas_mem.mpr ⟨u, g1, h2⟩, ?_⟩))
      rw [h2, zrl_cat]
      simp only [Bool.and_eq_true, Bool.not_eq_true', beq_eq_false_iff_ne, Bool.and_eq_false_iff]
      refine ⟨e, e2, ?_⟩
      by_cases a : q.1 + 1 = i
      · exact Or.inr fun b => g2 ⟨a, b⟩
      · exact Or.inl a
/-- a method's locals at its entry -/
def zargs : List Value → List (Option Value)
  | [] => []
  | v :: t => if v.category = 2 then some v :: none :: zargs t else some v :: zargs t
def zent (av : List Value) (n : Nat) : List (Option Value) := zargs av ++ List.replicate (n - (zargs av).length) none
theorem zargs_len (G : zG) : ∀ av : List Value, (zargs av).length = (lg_sl (av.map (zrl G))).length
  | [] => rfl
  | v :: t => by
    have h := zargs_len G t
    unfold lg_sl at h ⊢
    simp only [List.map_cons, List.flatMap_cons, List.length_append, zrl_cat]
    unfold zargs
    by_cases hc : v.category = 2
    · rw [if_pos hc, if_pos hc, List.length_cons, List.length_cons, h]
      simp
      omega
    · rw [if_neg hc, if_neg hc, List.length_cons, h]
      simp
      omega
theorem zargs_in (G : zG) : ∀ (av : List Value) (o i : Nat) (v : Value), (zargs av)[i]? = some (some v) → (o + i, zrl G v) ∈ lv_args o (av.map (zrl G))
  | [], _, i, v, h => by simp [zargs] at h
  | u :: t, o, i, v, h => by
    unfold zargs at h
    rw [List.map_cons]
    unfold lv_args
    rw [zrl_cat]
    by_cases hc : u.category = 2
    · rw [if_pos hc] at h ⊢
      match i, h with
      | 0, h => cases h; exact List.mem_cons_self
      | 1, h => cases h
      | i + 2, h =>
        have := zargs_in G t (o + 2) i v h
        rw [show o + (i + 2) = o + 2 + i by omega]
        exact List.mem_cons_of_mem _ this
    · rw [if_neg hc] at h ⊢
      match i, h with
      | 0, h => cases h; exact List.mem_cons_self
      | i + 1, h =>
        have := zargs_in G t (o + 1) i v h
        rw [show o + (i + 1) = o + 1 + i by omega]
        exact List.mem_cons_of_mem _ this
theorem zLh.ent {G : zG} {n : Nat} {av : List Value} {ls : Array Slot} (h : lv_has ls n (lv_args 0 (av.map (zrl G)))) : zLh G n (zent av n) ls := by
  refine ⟨h.1, h.2.1, fun q hq => ?_⟩
  obtain ⟨v, h1, h2⟩ := zas_mem.mp hq
  unfold zent at h1
  by_cases hl : q.1 < (zargs av).length
  · rw [List.getElem?_append_left hl] at h1
    have := zargs_in G av 0 q.1 v h1
    rw [Nat.zero_add] at this
    rw [h2]
    exact h.2.2 (q.1, zrl G v) this
  · rw [List.getElem?_append_right (by omega)] at h1
    have := List.eq_of_mem_replicate (List.mem_of_getElem? h1)
    cases this
end
section
/-! A WALK OVER THE WORLD -/
/-- where a method's body stands -/
def ZC (G : zG) (mid : Nat) (p : Program) (R : Room) (s : State) (m : MethodId) (args : Array Value) (meth : Method) (c : Code) : Prop :=
  p.tables.exec = Jvm.exec ∧ c.code = zb mid ∧ c.maxLocals = zL mid ∧ s.vm.findClass (zy mid).cls = some m.cls ∧ (∀ w ∈ zbig, w.before args s = true) ∧
  ((zy mid).name = "<init>" → meth.name = "<init>") ∧ zS G s s.heap ∧ zf mid ≤ R.frames ∧ zq mid ≤ R.locals
/-- a heap that holds the world w -/
def ZH (G : zG) (ac : Nat → ClassId) (w : zW) (s : State) (H : Heap) (locs : List Loc) (cells : Nat) : Prop :=
  va_P (gD G) vwCl (zwl G ac w) H ∧ va_S (zA G) s.heap H locs ∧ zK G ac w s ∧ s.heap.size + cells = gb G + w.1.length
/-- an instruction that answers r -/
def zRet (mid pc : Nat) (r : Option Value) : Prop := match r with
  | none => zr mid = none ∧ decode (zb mid) pc = .ok (.return_, 1)
  | some (.int v) => (∃ ty, zr mid = some ty ∧ narrow ty (.int v) = .int v) ∧ decode (zb mid) pc = .ok (.ireturn, 1)
  | some (.long _) => zr mid = some .long ∧ decode (zb mid) pc = .ok (.lreturn, 1)
  | _ => False
/-- from the place pc with locals lo, stack st, world w, with kc cells of ks slots still to be made: the method comes to an answer and a world of which Q holds -/
def ZW (G : zG) (mid pc : Nat) (lo : List (Option Value)) (st : List Value) (w : zW) (kc ks : Nat) (Q : Option Value → zW → Prop) : Prop :=
  ∀ (p : Program) (l : Launch) (e : Env) (R : Room) (s : State) (m : MethodId) (args : Array Value) (below : List Frame) (meth : Method) (c : Code) (H : Heap) (locs : List Loc) (cells slots : Nat) (ac : Nat → ClassId) (ls : Array Slot) (Qf : State → Prop),
    ZC G mid p R s m args meth c → ZH G ac w s H locs cells → cells + kc ≤ R.cells → slots + ks ≤ R.slots → zLh G (zL mid) lo ls →
    (∀ (r : Option Value) (w' : zW) (H' : Heap) (locs' : List Loc) (cells' slots' : Nat) (ac' : Nat → ClassId) (pc' : Nat) (ls' : Array Slot), Q r w' → ZH G ac' w' s H' locs' cells' → cells' ≤ R.cells → slots' ≤ R.slots → zRet mid pc' r →
      W p l e R s m args below meth c H' locs' cells' slots' Qf (F0 m pc' ls' r.toList)) →
    W p l e R s m args below meth c H locs cells slots Qf (F0 m pc ls (st.map (zrl G)))
section ZROWS
variable {G : zG} {mid pc pc' : Nat} {lo : List (Option Value)} {st : List Value} {w : zW} {kc ks : Nat} {Q : Option Value → zW → Prop} {a : List Nat}
/-- an instruction that moves place and stack alone -/
theorem ZW.go {st' : List Value} (h : ∀ (p : Program) (l : Launch) (e : Env) (R : Room) (s : State) (m : MethodId) (args : Array Value) (below : List Frame) (meth : Method) (c : Code) (H : Heap) (locs : List Loc) (cells slots : Nat) (ls : Array Slot) (Qf : State → Prop),
      ZC G mid p R s m args meth c → zLh G (zL mid) lo ls → W p l e R s m args below meth c H locs cells slots Qf (F0 m pc' ls (st'.map (zrl G))) → W p l e R s m args below meth c H locs cells slots Qf (F0 m pc ls (st.map (zrl G))))
    (k : ZW G mid pc' lo st' w kc ks Q) : ZW G mid pc lo st w kc ks Q :=
  fun p l e R s m args below meth c H locs cells slots ac ls Qf C hH h1 h2 hL hret => h p l e R s m args below meth c H locs cells slots ls Qf C hL (k p l e R s m args below meth c H locs cells slots ac ls Qf C hH h1 h2 hL hret)
/-- an instruction that forks -/
theorem ZW.fork {pt pf : Nat} {st' : List Value} {P : Prop} (h : ∀ (p : Program) (l : Launch) (e : Env) (R : Room) (s : State) (m : MethodId) (args : Array Value) (below : List Frame) (meth : Method) (c : Code) (H : Heap) (locs : List Loc) (cells slots : Nat) (ls : Array Slot) (Qf : State → Prop),
      ZC G mid p R s m args meth c → (P → W p l e R s m args below meth c H locs cells slots Qf (F0 m pt ls (st'.map (zrl G)))) → (¬ P → W p l e R s m args below meth c H locs cells slots Qf (F0 m pf ls (st'.map (zrl G)))) → W p l e R s m args below meth c H locs cells slots Qf (F0 m pc ls (st.map (zrl G))))
    (kt : P → ZW G mid pt lo st' w kc ks Q) (kf : ¬ P → ZW G mid pf lo st' w kc ks Q) : ZW G mid pc lo st w kc ks Q :=
  fun p l e R s m args below meth c H locs cells slots ac ls Qf C hH h1 h2 hL hret => h p l e R s m args below meth c H locs cells slots ls Qf C (fun q => kt q p l e R s m args below meth c H locs cells slots ac ls Qf C hH h1 h2 hL hret) (fun q => kf q p l e R s m args below meth c H locs cells slots ac ls Qf C hH h1 h2 hL hret)
/-- a store into the locals -/
theorem ZW.sto {lo' : List (Option Value)} {st' : List Value} (h : ∀ (p : Program) (l : Launch) (e : Env) (R : Room) (s : State) (m : MethodId) (args : Array Value) (below : List Frame) (meth : Method) (c : Code) (H : Heap) (locs : List Loc) (cells slots : Nat) (ls : Array Slot) (Qf : State → Prop),
      ZC G mid p R s m args meth c → zLh G (zL mid) lo ls → (∀ ls' : Array Slot, zLh G (zL mid) lo' ls' → W p l e R s m args below meth c H locs cells slots Qf (F0 m pc' ls' (st'.map (zrl G)))) → W p l e R s m args below meth c H locs cells slots Qf (F0 m pc ls (st.map (zrl G))))
    (k : ZW G mid pc' lo' st' w kc ks Q) : ZW G mid pc lo st w kc ks Q :=
  fun p l e R s m args below meth c H locs cells slots ac ls Qf C hH h1 h2 hL hret => h p l e R s m args below meth c H locs cells slots ls Qf C hL (fun ls' hL' => k p l e R s m args below meth c H locs cells slots ac ls' Qf C hH h1 h2 hL' hret)
theorem ZW.iconst {n : Int} (v : Int32) (h : zIn mid pc pc' (.iconst n) 1 a) (hv : Int32.ofInt n = v) (k : ZW G mid pc' lo (.int v :: st) w kc ks Q) : ZW G mid pc lo st w kc ks Q := by
  obtain ⟨hc, rfl⟩ := id h
  exact ZW.go (fun p l e R s m args below meth c H locs cells slots ls Qf C _ k => lv_iconst C.1 C.2.1 h.dec hv k) k
theorem ZW.bipush {n : Int} (v : Int32) (h : zIn mid pc pc' (.bipush n) 2 a) (hv : (Int8.ofInt n).toInt32 = v) (k : ZW G mid pc' lo (.int v :: st) w kc ks Q) : ZW G mid pc lo st w kc ks Q := by
  obtain ⟨hc, rfl⟩ := id h
  exact ZW.go (fun p l e R s m args below meth c H locs cells slots ls Qf C _ k => lv_bipush C.1 C.2.1 h.dec hv k) k
theorem ZW.sipush {n : Int} (v : Int32) (h : zIn mid pc pc' (.sipush n) 3 a) (hv : (Int16.ofInt n).toInt32 = v) (k : ZW G mid pc' lo (.int v :: st) w kc ks Q) : ZW G mid pc lo st w kc ks Q := by
  obtain ⟨hc, rfl⟩ := id h
  exact ZW.go (fun p l e R s m args below meth c H locs cells slots ls Qf C _ k => lv_sipush C.1 C.2.1 h.dec hv k) k
theorem ZW.lconst {n : Fin 2} (v : Int64) (h : zIn mid pc pc' (.lconst n) 1 a) (hv : Int64.ofNat (n : Nat) = v) (k : ZW G mid pc' lo (.long v :: st) w kc ks Q) : ZW G mid pc lo st w kc ks Q := by
  obtain ⟨hc, rfl⟩ := id h
  exact ZW.go (fun p l e R s m args below meth c H locs cells slots ls Qf C _ k => lv_lconst C.1 C.2.1 h.dec hv k) k
theorem ZW.ldc {idx h0 u : Nat} (v : Int32) (h : zIn mid pc pc' (.ldc idx) 2 [h0, u]) (hv : Int32.ofNat u = v) (k : ZW G mid pc' lo (.int v :: st) w kc ks Q) : ZW G mid pc lo st w kc ks Q := by
  obtain ⟨hc, rfl⟩ := id h
  subst hv
  have hk := zHas_mem (by have := h.ck.2; simpa [zCkI] using this)
  exact ZW.go (fun p l e R s m args below meth c H locs cells slots ls Qf C _ k => lv_ldc C.1 C.2.1 C.2.2.2.1 (C.2.2.2.2.1 _ hk) h.dec k) k
theorem ZW.ldcw {idx h0 u : Nat} (v : Int32) (h : zIn mid pc pc' (.ldc_w idx) 3 [h0, u]) (hv : Int32.ofNat u = v) (k : ZW G mid pc' lo (.int v :: st) w kc ks Q) : ZW G mid pc lo st w kc ks Q := by
  obtain ⟨hc, rfl⟩ := id h
  subst hv
  have hk := zHas_mem (by have := h.ck.2; simpa [zCkI] using this)
  exact ZW.go (fun p l e R s m args below meth c H locs cells slots ls Qf C _ k => lv_ldcw C.1 C.2.1 C.2.2.2.1 (C.2.2.2.2.1 _ hk) h.dec k) k
theorem ZW.ldc2 {idx h0 u : Nat} (v : Int64) (h : zIn mid pc pc' (.ldc2_w idx) 3 [h0, u]) (hv : Int64.ofNat u = v) (k : ZW G mid pc' lo (.long v :: st) w kc ks Q) : ZW G mid pc lo st w kc ks Q := by
  obtain ⟨hc, rfl⟩ := id h
  subst hv
  have hk := zHas_mem (by have := h.ck.2; simpa [zCkI] using this)
  exact ZW.go (fun p l e R s m args below meth c H locs cells slots ls Qf C _ k => lv_ldc2 C.1 C.2.1 C.2.2.2.1 (C.2.2.2.2.1 _ hk) h.dec k) k
theorem ZW.iload_n {n : Fin 4} {x : Int32} (h : zIn mid pc pc' (.iload_n n) 1 a) (hl : lo[(n : Nat)]? = some (some (.int x))) (k : ZW G mid pc' lo (.int x :: st) w kc ks Q) : ZW G mid pc lo st w kc ks Q := by
  obtain ⟨hc, rfl⟩ := id h
  exact ZW.go (fun p l e R s m args below meth c H locs cells slots ls Qf C hL k => lv_iload_n C.1 C.2.1 h.dec rfl (hL.at hl) k) k
theorem ZW.iload {n : Nat} {x : Int32} (h : zIn mid pc pc' (.iload n) 2 a) (hl : lo[n]? = some (some (.int x))) (k : ZW G mid pc' lo (.int x :: st) w kc ks Q) : ZW G mid pc lo st w kc ks Q := by
  obtain ⟨hc, rfl⟩ := id h
  exact ZW.go (fun p l e R s m args below meth c H locs cells slots ls Qf C hL k => lv_iload C.1 C.2.1 h.dec (hL.at hl) k) k
theorem ZW.lload_n {n : Fin 4} {x : Int64} (h : zIn mid pc pc' (.lload_n n) 1 a) (hl : lo[(n : Nat)]? = some (some (.long x))) (k : ZW G mid pc' lo (.long x :: st) w kc ks Q) : ZW G mid pc lo st w kc ks Q := by
  obtain ⟨hc, rfl⟩ := id h
  exact ZW.go (fun p l e R s m args below meth c H locs cells slots ls Qf C hL k => lv_lload_n C.1 C.2.1 h.dec rfl (hL.at hl) k) k
theorem ZW.lload {n : Nat} {x : Int64} (h : zIn mid pc pc' (.lload n) 2 a) (hl : lo[n]? = some (some (.long x))) (k : ZW G mid pc' lo (.long x :: st) w kc ks Q) : ZW G mid pc lo st w kc ks Q := by
  obtain ⟨hc, rfl⟩ := id h
  exact ZW.go (fun p l e R s m args below meth c H locs cells slots ls Qf C hL k => lv_lload C.1 C.2.1 h.dec (hL.at hl) k) k
/-- a reference below a million is a reference of the machine -/
theorem zrl_isref (G : zG) {x : Nat} (hx : x < 1000200) : ∃ q, zrl G (.ref x) = .ref q := by
  unfold zrl
  dsimp only
  split
  · exact ⟨_, rfl⟩
  · split
    · exact ⟨_, rfl⟩
    · split
      · exact ⟨_, rfl⟩
      · exact ⟨_, rfl⟩
theorem ZW.aload_n {n : Fin 4} {x : Nat} (h : zIn mid pc pc' (.aload_n n) 1 a) (hl : lo[(n : Nat)]? = some (some (.ref x))) (k : ZW G mid pc' lo (.ref x :: st) w kc ks Q) : ZW G mid pc lo st w kc ks Q := by
  obtain ⟨hc, rfl⟩ := id h
  refine ZW.go (fun p l e R s m args below meth c H locs cells slots ls Qf C hL k => ?_) k
  have hat := hL.at hl
  cases hz : zrl G (.ref x) with
  | ref q => rw [hz] at hat; rw [List.map_cons, hz] at k; exact lv_aload_n C.1 C.2.1 h.dec rfl hat k
  | null => rw [hz] at hat; rw [List.map_cons, hz] at k; exact lv_aload_nN C.1 C.2.1 h.dec rfl hat k
  | _ =>
    exfalso
    unfold zrl at hz
    dsimp only at hz
    split at hz
    · cases hz
    · split at hz
      · cases hz
      · split at hz
        · cases hz
        · split at hz
          · cases hz
          · cases hg : gv G <;> rw [hg] at hz <;> cases hz
theorem ZW.aload {n : Nat} {x : Nat} (hx : x < 1000200) (h : zIn mid pc pc' (.aload n) 2 a) (hl : lo[n]? = some (some (.ref x))) (k : ZW G mid pc' lo (.ref x :: st) w kc ks Q) : ZW G mid pc lo st w kc ks Q := by
  obtain ⟨hc, rfl⟩ := id h
  refine ZW.go (fun p l e R s m args below meth c H locs cells slots ls Qf C hL k => ?_) k
  have hat := hL.at hl
  obtain ⟨q, hz⟩ := zrl_isref G hx
  rw [hz] at hat
  rw [List.map_cons, hz] at k
  exact lv_aload C.1 C.2.1 h.dec hat k
theorem ZW.istore_n {n : Fin 4} {x : Int32} (lo' : List (Option Value)) (h : zIn mid pc pc' (.istore_n n) 1 a) (hn : (n : Nat) < zL mid) (hl : zst lo n (.int x) = lo') (k : ZW G mid pc' lo' st w kc ks Q) : ZW G mid pc lo (.int x :: st) w kc ks Q := by
  obtain ⟨hc, rfl⟩ := id h
  subst hl
  exact ZW.sto (fun p l e R s m args below meth c H locs cells slots ls Qf C hL k => lv_istore_n C.1 C.2.1 h.dec rfl hL hn rfl (fun ls' h' => k ls' (zLh.st (v := .int x) h'))) k
theorem ZW.istore {n : Nat} {x : Int32} (lo' : List (Option Value)) (h : zIn mid pc pc' (.istore n) 2 a) (hn : n < zL mid) (hl : zst lo n (.int x) = lo') (k : ZW G mid pc' lo' st w kc ks Q) : ZW G mid pc lo (.int x :: st) w kc ks Q := by
  obtain ⟨hc, rfl⟩ := id h
  subst hl
  exact ZW.sto (fun p l e R s m args below meth c H locs cells slots ls Qf C hL k => lv_istore C.1 C.2.1 h.dec hL hn rfl (fun ls' h' => k ls' (zLh.st (v := .int x) h'))) k
theorem ZW.lstore_n {n : Fin 4} {x : Int64} (lo' : List (Option Value)) (h : zIn mid pc pc' (.lstore_n n) 1 a) (hn : (n : Nat) + 1 < zL mid) (hl : zstL lo n (.long x) = lo') (k : ZW G mid pc' lo' st w kc ks Q) : ZW G mid pc lo (.long x :: st) w kc ks Q := by
  obtain ⟨hc, rfl⟩ := id h
  subst hl
  exact ZW.sto (fun p l e R s m args below meth c H locs cells slots ls Qf C hL k => lv_lstore_n C.1 C.2.1 h.dec rfl hL hn rfl (fun ls' h' => k ls' (zLh.stL (v := .long x) h'))) k
theorem ZW.lstore {n : Nat} {x : Int64} (lo' : List (Option Value)) (h : zIn mid pc pc' (.lstore n) 2 a) (hn : n + 1 < zL mid) (hl : zstL lo n (.long x) = lo') (k : ZW G mid pc' lo' st w kc ks Q) : ZW G mid pc lo (.long x :: st) w kc ks Q := by
  obtain ⟨hc, rfl⟩ := id h
  subst hl
  exact ZW.sto (fun p l e R s m args below meth c H locs cells slots ls Qf C hL k => lv_lstore C.1 C.2.1 h.dec hL hn rfl (fun ls' h' => k ls' (zLh.stL (v := .long x) h'))) k
theorem ZW.astore_n {n : Fin 4} {x : Nat} (lo' : List (Option Value)) (hx : x < 1000200) (h : zIn mid pc pc' (.astore_n n) 1 a) (hn : (n : Nat) < zL mid) (hl : zst lo n (.ref x) = lo') (k : ZW G mid pc' lo' st w kc ks Q) : ZW G mid pc lo (.ref x :: st) w kc ks Q := by
  obtain ⟨hc, rfl⟩ := id h
  subst hl
  refine ZW.sto (fun p l e R s m args below meth c H locs cells slots ls Qf C hL k => ?_) k
  obtain ⟨q, hz⟩ := zrl_isref G hx
  rw [List.map_cons, hz]
  exact lv_astore_n C.1 C.2.1 h.dec rfl hL hn rfl (fun ls' h' => k ls' (zLh.st (v := .ref x) (by rw [hz]; exact h')))
theorem ZW.astore {n : Nat} {x : Nat} (lo' : List (Option Value)) (hx : x < 1000200) (h : zIn mid pc pc' (.astore n) 2 a) (hn : n < zL mid) (hl : zst lo n (.ref x) = lo') (k : ZW G mid pc' lo' st w kc ks Q) : ZW G mid pc lo (.ref x :: st) w kc ks Q := by
  obtain ⟨hc, rfl⟩ := id h
  subst hl
  refine ZW.sto (fun p l e R s m args below meth c H locs cells slots ls Qf C hL k => ?_) k
  obtain ⟨q, hz⟩ := zrl_isref G hx
  rw [List.map_cons, hz]
  exact lv_astore C.1 C.2.1 h.dec hL hn rfl (fun ls' h' => k ls' (zLh.st (v := .ref x) (by rw [hz]; exact h')))
theorem ZW.iinc {i : Nat} {n : Int} {x : Int32} (v : Int32) (lo' : List (Option Value)) (h : zIn mid pc pc' (.iinc i n) 3 a) (hx : lo[i]? = some (some (.int x))) (hv : x + Int32.ofInt n = v) (hn : i < zL mid) (hl : zst lo i (.int v) = lo') (k : ZW G mid pc' lo' st w kc ks Q) : ZW G mid pc lo st w kc ks Q := by
  obtain ⟨hc, rfl⟩ := id h
  subst hl
  obtain ⟨j, hj⟩ := List.getElem?_of_mem (zas_mem (G := G) (q := (i, .int x)) |>.mpr ⟨.int x, hx, rfl⟩)
  exact ZW.sto (fun p l e R s m args below meth c H locs cells slots ls Qf C hL k => lv_iinc C.1 C.2.1 h.dec hL hj hv hn rfl (fun ls' h' => k ls' (zLh.st (v := .int v) h'))) k
theorem ZW.iadd {x y : Int32} (h : zIn mid pc pc' .iadd 1 a) (k : ZW G mid pc' lo (.int (x + y) :: st) w kc ks Q) : ZW G mid pc lo (.int y :: .int x :: st) w kc ks Q := by
  obtain ⟨hc, rfl⟩ := id h
  exact ZW.go (fun p l e R s m args below meth c H locs cells slots ls Qf C _ k => lv_iadd C.1 C.2.1 h.dec k) k
theorem ZW.isub {x y : Int32} (h : zIn mid pc pc' .isub 1 a) (k : ZW G mid pc' lo (.int (x - y) :: st) w kc ks Q) : ZW G mid pc lo (.int y :: .int x :: st) w kc ks Q := by
  obtain ⟨hc, rfl⟩ := id h
  exact ZW.go (fun p l e R s m args below meth c H locs cells slots ls Qf C _ k => lv_isub C.1 C.2.1 h.dec k) k
theorem ZW.imul {x y : Int32} (h : zIn mid pc pc' .imul 1 a) (k : ZW G mid pc' lo (.int (x * y) :: st) w kc ks Q) : ZW G mid pc lo (.int y :: .int x :: st) w kc ks Q := by
  obtain ⟨hc, rfl⟩ := id h
  exact ZW.go (fun p l e R s m args below meth c H locs cells slots ls Qf C _ k => lv_imul C.1 C.2.1 h.dec k) k
theorem ZW.iand {x y : Int32} (h : zIn mid pc pc' .iand 1 a) (k : ZW G mid pc' lo (.int (x &&& y) :: st) w kc ks Q) : ZW G mid pc lo (.int y :: .int x :: st) w kc ks Q := by
  obtain ⟨hc, rfl⟩ := id h
  exact ZW.go (fun p l e R s m args below meth c H locs cells slots ls Qf C _ k => lv_iand C.1 C.2.1 h.dec k) k
theorem ZW.ior {x y : Int32} (h : zIn mid pc pc' .ior 1 a) (k : ZW G mid pc' lo (.int (x ||| y) :: st) w kc ks Q) : ZW G mid pc lo (.int y :: .int x :: st) w kc ks Q := by
  obtain ⟨hc, rfl⟩ := id h
  exact ZW.go (fun p l e R s m args below meth c H locs cells slots ls Qf C _ k => lv_ior C.1 C.2.1 h.dec k) k
theorem ZW.ladd {x y : Int64} (h : zIn mid pc pc' .ladd 1 a) (k : ZW G mid pc' lo (.long (x + y) :: st) w kc ks Q) : ZW G mid pc lo (.long y :: .long x :: st) w kc ks Q := by
  obtain ⟨hc, rfl⟩ := id h
  exact ZW.go (fun p l e R s m args below meth c H locs cells slots ls Qf C _ k => lv_ladd C.1 C.2.1 h.dec k) k
theorem ZW.lsub {x y : Int64} (h : zIn mid pc pc' .lsub 1 a) (k : ZW G mid pc' lo (.long (x - y) :: st) w kc ks Q) : ZW G mid pc lo (.long y :: .long x :: st) w kc ks Q := by
  obtain ⟨hc, rfl⟩ := id h
  exact ZW.go (fun p l e R s m args below meth c H locs cells slots ls Qf C _ k => lv_lsub C.1 C.2.1 h.dec k) k
theorem ZW.lmul {x y : Int64} (h : zIn mid pc pc' .lmul 1 a) (k : ZW G mid pc' lo (.long (x * y) :: st) w kc ks Q) : ZW G mid pc lo (.long y :: .long x :: st) w kc ks Q := by
  obtain ⟨hc, rfl⟩ := id h
  exact ZW.go (fun p l e R s m args below meth c H locs cells slots ls Qf C _ k => lv_lmul C.1 C.2.1 h.dec k) k
theorem ZW.idiv {x y : Int32} (h : zIn mid pc pc' .idiv 1 a) (hne : ¬ y = 0) (k : ZW G mid pc' lo (.int (x / y) :: st) w kc ks Q) : ZW G mid pc lo (.int y :: .int x :: st) w kc ks Q := by
  obtain ⟨hc, rfl⟩ := id h
  exact ZW.go (fun p l e R s m args below meth c H locs cells slots ls Qf C _ k => lv_idiv C.1 C.2.1 h.dec hne k) k
theorem ZW.irem {x y : Int32} (h : zIn mid pc pc' .irem 1 a) (hne : ¬ y = 0) (k : ZW G mid pc' lo (.int (x - x / y * y) :: st) w kc ks Q) : ZW G mid pc lo (.int y :: .int x :: st) w kc ks Q := by
  obtain ⟨hc, rfl⟩ := id h
  exact ZW.go (fun p l e R s m args below meth c H locs cells slots ls Qf C _ k => lv_irem C.1 C.2.1 h.dec hne k) k
theorem ZW.ldiv {x y : Int64} (h : zIn mid pc pc' .ldiv 1 a) (hne : ¬ y = 0) (k : ZW G mid pc' lo (.long (x / y) :: st) w kc ks Q) : ZW G mid pc lo (.long y :: .long x :: st) w kc ks Q := by
  obtain ⟨hc, rfl⟩ := id h
  exact ZW.go (fun p l e R s m args below meth c H locs cells slots ls Qf C _ k => lv_ldiv C.1 C.2.1 h.dec hne k) k
theorem ZW.lrem {x y : Int64} (h : zIn mid pc pc' .lrem 1 a) (hne : ¬ y = 0) (k : ZW G mid pc' lo (.long (x - x / y * y) :: st) w kc ks Q) : ZW G mid pc lo (.long y :: .long x :: st) w kc ks Q := by
  obtain ⟨hc, rfl⟩ := id h
  exact ZW.go (fun p l e R s m args below meth c H locs cells slots ls Qf C _ k => lv_lrem C.1 C.2.1 h.dec hne k) k
theorem ZW.ishl {x y : Int32} (h : zIn mid pc pc' .ishl 1 a) (k : ZW G mid pc' lo (.int (x <<< (y &&& 31)) :: st) w kc ks Q) : ZW G mid pc lo (.int y :: .int x :: st) w kc ks Q := by
  obtain ⟨hc, rfl⟩ := id h
  exact ZW.go (fun p l e R s m args below meth c H locs cells slots ls Qf C _ k => lv_ishl C.1 C.2.1 h.dec k) k
theorem ZW.ishr {x y : Int32} (h : zIn mid pc pc' .ishr 1 a) (k : ZW G mid pc' lo (.int (x >>> (y &&& 31)) :: st) w kc ks Q) : ZW G mid pc lo (.int y :: .int x :: st) w kc ks Q := by
  obtain ⟨hc, rfl⟩ := id h
  exact ZW.go (fun p l e R s m args below meth c H locs cells slots ls Qf C _ k => lv_ishr C.1 C.2.1 h.dec k) k
theorem ZW.iushr {x y : Int32} (h : zIn mid pc pc' .iushr 1 a) (k : ZW G mid pc' lo (.int ((x.toUInt32 >>> (y.toUInt32 &&& Int32.toUInt32 31)).toInt32) :: st) w kc ks Q) : ZW G mid pc lo (.int y :: .int x :: st) w kc ks Q := by
  obtain ⟨hc, rfl⟩ := id h
  exact ZW.go (fun p l e R s m args below meth c H locs cells slots ls Qf C _ k => lv_iushr C.1 C.2.1 h.dec rfl k) k
theorem ZW.i2l {x : Int32} (h : zIn mid pc pc' .i2l 1 a) (k : ZW G mid pc' lo (.long x.toInt64 :: st) w kc ks Q) : ZW G mid pc lo (.int x :: st) w kc ks Q := by
  obtain ⟨hc, rfl⟩ := id h
  exact ZW.go (fun p l e R s m args below meth c H locs cells slots ls Qf C _ k => lv_i2l C.1 C.2.1 h.dec rfl k) k
theorem ZW.l2i {x : Int64} (h : zIn mid pc pc' .l2i 1 a) (k : ZW G mid pc' lo (.int x.toInt32 :: st) w kc ks Q) : ZW G mid pc lo (.long x :: st) w kc ks Q := by
  obtain ⟨hc, rfl⟩ := id h
  exact ZW.go (fun p l e R s m args below meth c H locs cells slots ls Qf C _ k => lv_l2i C.1 C.2.1 h.dec rfl k) k
theorem ZW.i2b {x : Int32} (h : zIn mid pc pc' .i2b 1 a) (k : ZW G mid pc' lo (.int x.toInt8.toInt32 :: st) w kc ks Q) : ZW G mid pc lo (.int x :: st) w kc ks Q := by
  obtain ⟨hc, rfl⟩ := id h
  exact ZW.go (fun p l e R s m args below meth c H locs cells slots ls Qf C _ k => lv_i2b C.1 C.2.1 h.dec rfl k) k
theorem ZW.i2s {x : Int32} (h : zIn mid pc pc' .i2s 1 a) (k : ZW G mid pc' lo (.int x.toInt16.toInt32 :: st) w kc ks Q) : ZW G mid pc lo (.int x :: st) w kc ks Q := by
  obtain ⟨hc, rfl⟩ := id h
  exact ZW.go (fun p l e R s m args below meth c H locs cells slots ls Qf C _ k => lv_i2s C.1 C.2.1 h.dec rfl k) k
theorem ZW.i2c {x : Int32} (h : zIn mid pc pc' .i2c 1 a) (k : ZW G mid pc' lo (.int (x.toUInt32 % 65536).toInt32 :: st) w kc ks Q) : ZW G mid pc lo (.int x :: st) w kc ks Q := by
  obtain ⟨hc, rfl⟩ := id h
  exact ZW.go (fun p l e R s m args below meth c H locs cells slots ls Qf C _ k => lv_i2c C.1 C.2.1 h.dec rfl k) k
theorem ZW.lcmp {x y : Int64} (h : zIn mid pc pc' .lcmp 1 a) (k : ZW G mid pc' lo (.int (lg_cmp x y) :: st) w kc ks Q) : ZW G mid pc lo (.long y :: .long x :: st) w kc ks Q := by
  obtain ⟨hc, rfl⟩ := id h
  exact ZW.go (fun p l e R s m args below meth c H locs cells slots ls Qf C _ k => W.lcmp C.1 C.2.1 h.dec k) k
theorem ZW.dup {v : Value} (h : zIn mid pc pc' .dup 1 a) (hv : v.category = 1) (k : ZW G mid pc' lo (v :: v :: st) w kc ks Q) : ZW G mid pc lo (v :: st) w kc ks Q := by
  obtain ⟨hc, rfl⟩ := id h
  exact ZW.go (fun p l e R s m args below meth c H locs cells slots ls Qf C _ k => lv_dup C.1 C.2.1 h.dec ((zrl_cat G v).trans hv) k) k
theorem ZW.pop {v : Value} (h : zIn mid pc pc' .pop 1 a) (hv : v.category = 1) (k : ZW G mid pc' lo (st) w kc ks Q) : ZW G mid pc lo (v :: st) w kc ks Q := by
  obtain ⟨hc, rfl⟩ := id h
  exact ZW.go (fun p l e R s m args below meth c H locs cells slots ls Qf C _ k => lv_pop C.1 C.2.1 h.dec ((zrl_cat G v).trans hv) k) k
theorem ZW.dup2 {u v : Value} (h : zIn mid pc pc' .dup2 1 a) (hu : u.category = 1) (hv : v.category = 1) (k : ZW G mid pc' lo (u :: v :: u :: v :: st) w kc ks Q) : ZW G mid pc lo (u :: v :: st) w kc ks Q := by
  obtain ⟨hc, rfl⟩ := id h
  exact ZW.go (fun p l e R s m args below meth c H locs cells slots ls Qf C _ k => lv_dup2_11 C.1 C.2.1 h.dec ((zrl_cat G u).trans hu) ((zrl_cat G v).trans hv) k) k
theorem ZW.goto {off : Int} {t : Nat} (h : zIn mid pc pc' (.goto off) 3 [t]) (k : ZW G mid t lo st w kc ks Q) : ZW G mid pc lo st w kc ks Q := by
  have ht : (pc : Int) + off = (t : Int) := by have := h.ck.2; simpa [zCkI] using this
  exact ZW.go (fun p l e R s m args below meth c H locs cells slots ls Qf C _ k => lv_goto C.1 C.2.1 h.dec ht k) k
theorem ZW.if_eq {x : Int32} {off : Int} {t : Nat} (h : zIn mid pc pc' (.ifCond .eq off) 3 [t]) (kt : x = 0 → ZW G mid t lo st w kc ks Q) (kf : ¬ x = 0 → ZW G mid pc' lo st w kc ks Q) : ZW G mid pc lo (.int x :: st) w kc ks Q := by
  obtain ⟨hc, rfl⟩ := id h
  have ht : (pc : Int) + off = (t : Int) := by have := h.ck.2; simpa [zCkI] using this
  exact ZW.fork (fun p l e R s m args below meth c H locs cells slots ls Qf C k1 k2 => lv_if_eq C.1 C.2.1 h.dec ht k1 k2) kt kf
theorem ZW.icmp_eq {x y : Int32} {off : Int} {t : Nat} (h : zIn mid pc pc' (.if_icmp .eq off) 3 [t]) (kt : x = y → ZW G mid t lo st w kc ks Q) (kf : ¬ x = y → ZW G mid pc' lo st w kc ks Q) : ZW G mid pc lo (.int y :: .int x :: st) w kc ks Q := by
  obtain ⟨hc, rfl⟩ := id h
  have ht : (pc : Int) + off = (t : Int) := by have := h.ck.2; simpa [zCkI] using this
  exact ZW.fork (fun p l e R s m args below meth c H locs cells slots ls Qf C k1 k2 => lv_icmp_eq C.1 C.2.1 h.dec ht k1 k2) kt kf
theorem ZW.if_lt {x : Int32} {off : Int} {t : Nat} (h : zIn mid pc pc' (.ifCond .lt off) 3 [t]) (kt : x < 0 → ZW G mid t lo st w kc ks Q) (kf : ¬ x < 0 → ZW G mid pc' lo st w kc ks Q) : ZW G mid pc lo (.int x :: st) w kc ks Q := by
  obtain ⟨hc, rfl⟩ := id h
  have ht : (pc : Int) + off = (t : Int) := by have := h.ck.2; simpa [zCkI] using this
  exact ZW.fork (fun p l e R s m args below meth c H locs cells slots ls Qf C k1 k2 => lv_if_lt C.1 C.2.1 h.dec ht k1 k2) kt kf
theorem ZW.icmp_lt {x y : Int32} {off : Int} {t : Nat} (h : zIn mid pc pc' (.if_icmp .lt off) 3 [t]) (kt : x < y → ZW G mid t lo st w kc ks Q) (kf : ¬ x < y → ZW G mid pc' lo st w kc ks Q) : ZW G mid pc lo (.int y :: .int x :: st) w kc ks Q := by
  obtain ⟨hc, rfl⟩ := id h
  have ht : (pc : Int) + off = (t : Int) := by have := h.ck.2; simpa [zCkI] using this
  exact ZW.fork (fun p l e R s m args below meth c H locs cells slots ls Qf C k1 k2 => lv_icmp_lt C.1 C.2.1 h.dec ht k1 k2) kt kf
theorem ZW.if_ge {x : Int32} {off : Int} {t : Nat} (h : zIn mid pc pc' (.ifCond .ge off) 3 [t]) (kt : 0 ≤ x → ZW G mid t lo st w kc ks Q) (kf : ¬ 0 ≤ x → ZW G mid pc' lo st w kc ks Q) : ZW G mid pc lo (.int x :: st) w kc ks Q := by
  obtain ⟨hc, rfl⟩ := id h
  have ht : (pc : Int) + off = (t : Int) := by have := h.ck.2; simpa [zCkI] using this
  exact ZW.fork (fun p l e R s m args below meth c H locs cells slots ls Qf C k1 k2 => lv_if_ge C.1 C.2.1 h.dec ht k1 k2) kt kf
theorem ZW.icmp_ge {x y : Int32} {off : Int} {t : Nat} (h : zIn mid pc pc' (.if_icmp .ge off) 3 [t]) (kt : y ≤ x → ZW G mid t lo st w kc ks Q) (kf : ¬ y ≤ x → ZW G mid pc' lo st w kc ks Q) : ZW G mid pc lo (.int y :: .int x :: st) w kc ks Q := by
  obtain ⟨hc, rfl⟩ := id h
  have ht : (pc : Int) + off = (t : Int) := by have := h.ck.2; simpa [zCkI] using this
  exact ZW.fork (fun p l e R s m args below meth c H locs cells slots ls Qf C k1 k2 => lv_icmp_ge C.1 C.2.1 h.dec ht k1 k2) kt kf
theorem ZW.if_gt {x : Int32} {off : Int} {t : Nat} (h : zIn mid pc pc' (.ifCond .gt off) 3 [t]) (kt : 0 < x → ZW G mid t lo st w kc ks Q) (kf : ¬ 0 < x → ZW G mid pc' lo st w kc ks Q) : ZW G mid pc lo (.int x :: st) w kc ks Q := by
  obtain ⟨hc, rfl⟩ := id h
  have ht : (pc : Int) + off = (t : Int) := by have := h.ck.2; simpa [zCkI] using this
  exact ZW.fork (fun p l e R s m args below meth c H locs cells slots ls Qf C k1 k2 => lv_if_gt C.1 C.2.1 h.dec ht k1 k2) kt kf
theorem ZW.icmp_gt {x y : Int32} {off : Int} {t : Nat} (h : zIn mid pc pc' (.if_icmp .gt off) 3 [t]) (kt : y < x → ZW G mid t lo st w kc ks Q) (kf : ¬ y < x → ZW G mid pc' lo st w kc ks Q) : ZW G mid pc lo (.int y :: .int x :: st) w kc ks Q := by
  obtain ⟨hc, rfl⟩ := id h
  have ht : (pc : Int) + off = (t : Int) := by have := h.ck.2; simpa [zCkI] using this
  exact ZW.fork (fun p l e R s m args below meth c H locs cells slots ls Qf C k1 k2 => lv_icmp_gt C.1 C.2.1 h.dec ht k1 k2) kt kf
theorem ZW.if_le {x : Int32} {off : Int} {t : Nat} (h : zIn mid pc pc' (.ifCond .le off) 3 [t]) (kt : x ≤ 0 → ZW G mid t lo st w kc ks Q) (kf : ¬ x ≤ 0 → ZW G mid pc' lo st w kc ks Q) : ZW G mid pc lo (.int x :: st) w kc ks Q := by
  obtain ⟨hc, rfl⟩ := id h
  have ht : (pc : Int) + off = (t : Int) := by have := h.ck.2; simpa [zCkI] using this
  exact ZW.fork (fun p l e R s m args below meth c H locs cells slots ls Qf C k1 k2 => lv_if_le C.1 C.2.1 h.dec ht k1 k2) kt kf
theorem ZW.icmp_le {x y : Int32} {off : Int} {t : Nat} (h : zIn mid pc pc' (.if_icmp .le off) 3 [t]) (kt : x ≤ y → ZW G mid t lo st w kc ks Q) (kf : ¬ x ≤ y → ZW G mid pc' lo st w kc ks Q) : ZW G mid pc lo (.int y :: .int x :: st) w kc ks Q := by
  obtain ⟨hc, rfl⟩ := id h
  have ht : (pc : Int) + off = (t : Int) := by have := h.ck.2; simpa [zCkI] using this
  exact ZW.fork (fun p l e R s m args below meth c H locs cells slots ls Qf C k1 k2 => lv_icmp_le C.1 C.2.1 h.dec ht k1 k2) kt kf
theorem ZW.if_ne {x : Int32} {off : Int} {t : Nat} (h : zIn mid pc pc' (.ifCond .ne off) 3 [t]) (kt : ¬ x = 0 → ZW G mid t lo st w kc ks Q) (kf : x = 0 → ZW G mid pc' lo st w kc ks Q) : ZW G mid pc lo (.int x :: st) w kc ks Q := by
  obtain ⟨hc, rfl⟩ := id h
  have ht : (pc : Int) + off = (t : Int) := by have := h.ck.2; simpa [zCkI] using this
  exact ZW.fork (P := x = 0) (fun p l e R s m args below meth c H locs cells slots ls Qf C k1 k2 => lv_if_ne C.1 C.2.1 h.dec ht k2 k1) kf kt
theorem ZW.icmp_ne {x y : Int32} {off : Int} {t : Nat} (h : zIn mid pc pc' (.if_icmp .ne off) 3 [t]) (kt : ¬ x = y → ZW G mid t lo st w kc ks Q) (kf : x = y → ZW G mid pc' lo st w kc ks Q) : ZW G mid pc lo (.int y :: .int x :: st) w kc ks Q := by
  obtain ⟨hc, rfl⟩ := id h
  have ht : (pc : Int) + off = (t : Int) := by have := h.ck.2; simpa [zCkI] using this
  exact ZW.fork (P := x = y) (fun p l e R s m args below meth c H locs cells slots ls Qf C k1 k2 => lv_icmp_ne C.1 C.2.1 h.dec ht k2 k1) kf kt
theorem ZW.tabOut {dflt low high : Int} {offs : Array Int} {len : Nat} {x : Int32} (t : Nat) (h : zIn mid pc pc' (.tableswitch dflt low high offs) len a) (hx : x.toInt < low ∨ high < x.toInt) (ht : (pc : Int) + dflt = (t : Int)) (k : ZW G mid t lo st w kc ks Q) : ZW G mid pc lo (.int x :: st) w kc ks Q :=
  ZW.go (fun p l e R s m args below meth c H locs cells slots ls Qf C _ k => lv_tableOut C.1 C.2.1 h.dec hx ht k) k
theorem ZW.tabIn {dflt low high : Int} {offs : Array Int} {len : Nat} {x : Int32} {off : Int} (t : Nat) (h : zIn mid pc pc' (.tableswitch dflt low high offs) len a) (h1 : ¬ x.toInt < low) (h2 : ¬ high < x.toInt) (ho : offs[(x.toInt - low).toNat]? = some off) (ht : (pc : Int) + off = (t : Int)) (k : ZW G mid t lo st w kc ks Q) : ZW G mid pc lo (.int x :: st) w kc ks Q :=
  ZW.go (fun p l e R s m args below meth c H locs cells slots ls Qf C _ k => lv_tableIn C.1 C.2.1 h.dec h1 h2 ho ht k) k
theorem ZW.iret {v : Int32} {ty : FieldType} (h : zIn mid pc pc' .ireturn 1 a) (hr : zr mid = some ty) (hn : narrow ty (.int v) = .int v) (hq : Q (some (.int v)) w) : ZW G mid pc lo [.int v] w 0 0 Q :=
  fun p l e R s m args below meth c H locs cells slots ac ls Qf C hH h1 h2 hL hret => hret (some (.int v)) w H locs cells slots ac pc ls hq hH h1 h2 ⟨⟨ty, hr, hn⟩, h.dec⟩
theorem ZW.lret {v : Int64} (h : zIn mid pc pc' .lreturn 1 a) (hr : zr mid = some .long) (hq : Q (some (.long v)) w) : ZW G mid pc lo [.long v] w 0 0 Q :=
  fun p l e R s m args below meth c H locs cells slots ac ls Qf C hH h1 h2 hL hret => hret (some (.long v)) w H locs cells slots ac pc ls hq hH h1 h2 ⟨hr, h.dec⟩
theorem ZW.vret (h : zIn mid pc pc' .return_ 1 a) (hr : zr mid = none) (hq : Q none w) : ZW G mid pc lo [] w 0 0 Q :=
  fun p l e R s m args below meth c H locs cells slots ac ls Qf C hH h1 h2 hL hret => hret none w H locs cells slots ac pc ls hq hH h1 h2 ⟨hr, h.dec⟩
theorem ZW.mono {Q' : Option Value → zW → Prop} (h : ∀ r w', Q r w' → Q' r w') (k : ZW G mid pc lo st w kc ks Q) : ZW G mid pc lo st w kc ks Q' :=
  fun p l e R s m args below meth c H locs cells slots ac ls Qf C hH h1 h2 hL hret => k p l e R s m args below meth c H locs cells slots ac ls Qf C hH h1 h2 hL (fun r w' H' locs' cells' slots' ac' pc' ls' hq => hret r w' H' locs' cells' slots' ac' pc' ls' (h r w' hq))
theorem ZW.locs {lo' : List (Option Value)} (hs : ∀ (i : Nat) (v : Value), lo'[i]? = some (some v) → lo[i]? = some (some v)) (k : ZW G mid pc lo' st w kc ks Q) : ZW G mid pc lo st w kc ks Q :=
  fun p l e R s m args below meth c H locs cells slots ac ls Qf C hH h1 h2 hL hret => k p l e R s m args below meth c H locs cells slots ac ls Qf C hH h1 h2 (hL.sub hs) hret
theorem zce_obj {ac : Nat → ClassId} {q ci n : Nat} (h : ci < 12) : zce G ac w q (ci, n) = .inr (ci, (List.range (zcl ci).2.2).map (zfv G ci w q)) := if_pos h
theorem zce_arr {ac : Nat → ClassId} {q c n : Nat} (h : 12 ≤ c) (h2 : c < 53) : zce G ac w q (c, n) = .inl (ac q, n, .inl (w.2.1 q)) := by
  unfold zce
  rw [if_neg (by show ¬ c < 12; omega), if_pos h2]
theorem zce_ref {ac : Nat → ClassId} {q c n : Nat} (h2 : 53 ≤ c) : zce G ac w q (c, n) = .inl (ac q, n, .inr (.inr (.inr (.inr (fun j => (w.2.2.2 q j).map (fun r => gb G + r)))))) := by
  unfold zce
  rw [if_neg (by show ¬ c < 12; omega), if_neg (by show ¬ c < 53; omega)]
theorem ZC.hA {p : Program} {R : Room} {s : State} {m : MethodId} {args : Array Value} {meth : Method} {c : Code} (C : ZC G mid p R s m args meth c) : ∀ q, s.heap.size ≤ q → zA G q := fun q h => by
  have := C.2.2.2.2.2.2.1.2.2.1
  show gb G ≤ q
  omega
/-- a field is read -/
theorem ZW.getf {idx ci k h0 q n : Nat} (v : Value) (h : zIn mid pc pc' (.getfield idx) 3 [ci, k, h0]) (hc : ci < 12) (hM : w.1[q]? = some (ci, n)) (hq : q < 1000000) (hv : zfv G ci w q k = zrl G v) (kk : ZW G mid pc' lo (v :: st) w kc ks Q) : ZW G mid pc lo (.ref q :: st) w kc ks Q := by
  obtain ⟨-, rfl⟩ := id h
  have hck := h.ck.2
  have hne : ¬ ci = 99 := by omega
  simp only [zCkI, zFld, List.getD_cons_zero, List.getD_cons_succ, hne, if_false, Bool.and_eq_true, decide_eq_true_eq] at hck
  obtain ⟨-, hk, hl⟩ := hck
  intro p l e R s m args below meth c H locs cells slots ac ls Qf C hH h1 h2 hL hret
  have hP := hH.1
  have key := kk p l e R s m args below meth c H locs cells slots ac ls Qf C hH h1 h2 hL hret
  rw [List.map_cons, ← hv] at key
  rw [List.map_cons, zrl_ref G hq]
  have he := zwl_at (G := G) (ac := ac) hM
  rw [zce_obj hc] at he
  exact va_get (C := (zcl ci).1) (T := (zcl ci).2.1) (N := (zcl ci).2.2) C.1 C.2.1 C.2.2.2.2.1 (zcl_ws ci hc) C.2.2.2.1 hH.2.2.1.1 hP q he (zcl_at ci hc) k hk (C.2.2.2.2.1 _ (zHas_mem hl)) (fun _ h9 => h9) (by rw [List.getElem?_map, List.getElem?_range hk]; rfl) h.dec key
def zfk (ci k : Nat) : Nat := match zty ci k with
  | .long => 1
  | .int => 0
  | .boolean => 0
  | _ => 2
theorem zfv_0 {ci k q : Nat} (h : zfk ci k = 0) : zfv G ci w q k = .int (w.2.1 q k) := by
  unfold zfk at h
  unfold zfv
  split at h
  · cases h
  · rename_i e; rw [e]
  · rename_i e; rw [e]
  · cases h
theorem zfv_1 {ci k q : Nat} (h : zfk ci k = 1) : zfv G ci w q k = .long (w.2.2.1 q k) := by
  unfold zfk at h
  unfold zfv
  split at h
  · rename_i e; rw [e]
  · cases h
  · cases h
  · cases h
theorem zfv_2 {ci k q : Nat} (h : zfk ci k = 2) : zfv G ci w q k = va_rf ((w.2.2.2 q k).map (fun r => gb G + r)) := by
  unfold zfk at h
  unfold zfv
  split at h
  · cases h
  · cases h
  · cases h
  · rename_i e1 e2 e3
    split
    · rename_i e; exact absurd e e1
    · rename_i e; exact absurd e e2
    · rename_i e; exact absurd e e3
    · rfl
theorem ZW.getI {idx ci k h0 q n : Nat} (h : zIn mid pc pc' (.getfield idx) 3 [ci, k, h0]) (hc : ci < 12) (hf : zfk ci k = 0) (hM : w.1[q]? = some (ci, n)) (hq : q < 1000000) (kk : ZW G mid pc' lo (.int (w.2.1 q k) :: st) w kc ks Q) : ZW G mid pc lo (.ref q :: st) w kc ks Q :=
  ZW.getf (.int (w.2.1 q k)) h hc hM hq (zfv_0 hf) kk
theorem ZW.getL {idx ci k h0 q n : Nat} (h : zIn mid pc pc' (.getfield idx) 3 [ci, k, h0]) (hc : ci < 12) (hf : zfk ci k = 1) (hM : w.1[q]? = some (ci, n)) (hq : q < 1000000) (kk : ZW G mid pc' lo (.long (w.2.2.1 q k) :: st) w kc ks Q) : ZW G mid pc lo (.ref q :: st) w kc ks Q :=
  ZW.getf (.long (w.2.2.1 q k)) h hc hM hq (zfv_1 hf) kk
theorem ZW.getR {idx ci k h0 q n r : Nat} (h : zIn mid pc pc' (.getfield idx) 3 [ci, k, h0]) (hc : ci < 12) (hf : zfk ci k = 2) (hM : w.1[q]? = some (ci, n)) (hq : q < 1000000) (hr : w.2.2.2 q k = some r) (hr2 : r < 1000000) (kk : ZW G mid pc' lo (.ref r :: st) w kc ks Q) : ZW G mid pc lo (.ref q :: st) w kc ks Q :=
  ZW.getf (.ref r) h hc hM hq (by rw [zfv_2 hf, hr, zrl_ref G hr2]; rfl) kk
end ZROWS
end
section
/-! WALKS: cells written and made -/
section ZCELLS
variable {G : zG} {mid pc pc' : Nat} {lo : List (Option Value)} {st : List Value} {w : zW} {kc ks : Nat} {Q : Option Value → zW → Prop} {a : List Nat}
theorem W.sz {p : Program} {l : Launch} {e : Env} {R : Room} {s : State} {m : MethodId} {args : Array Value} {below : List Frame} {meth : Method} {c : Code} {H : Heap} {locs : List Loc} {cells slots : Nat} {Qf : State → Prop} {g : JFrame} (k : H.size ≤ s.heap.size + cells → W p l e R s m args below meth c H locs cells slots Qf g) : W p l e R s m args below meth c H locs cells slots Qf g :=
  fun T hT X => k (by have := X.heapSize; rw [hT] at this; exact this) T hT X
/-- a field is written -/
theorem ZW.putf {idx ci k h0 q n : Nat} (v : Value) (w' : zW) (h : zIn mid pc pc' (.putfield idx) 3 [ci, k, h0]) (hc : ci < 12) (hM : w.1[q]? = some (ci, n)) (hq : q < 1000000)
    (hn : narrow (zty ci k) (zrl G v) = zrl G v) (hf : fits (zty ci k) (zrl G v) = true) (hT : w'.1 = w.1) (hx : zfv G ci w' q k = zrl G v) (ho1 : ∀ j, j ≠ k → zfv G ci w' q j = zfv G ci w q j)
    (ho : ∀ (ac : Nat → ClassId) (q' : Nat) (e' : Nat × Nat), q' ≠ q → w.1[q']? = some e' → zce G ac w' q' e' = zce G ac w q' e') (kk : ZW G mid pc' lo st w' kc ks Q) : ZW G mid pc lo (v :: .ref q :: st) w kc ks Q := by
  obtain ⟨-, rfl⟩ := id h
  have hck := h.ck.2
  simp only [zCkI, zFld, List.getD_cons_zero, List.getD_cons_succ, Bool.and_eq_true, Bool.or_eq_true, decide_eq_true_eq] at hck
  obtain ⟨⟨-, hk, hl⟩, hfin⟩ := hck
  intro p l e R s m args below meth c H locs cells slots ac ls Qf C hH h1 h2 hL hret
  obtain ⟨hP, hS, hK, hz⟩ := hH
  rw [List.map_cons, List.map_cons, zrl_ref G hq]
  have he := zwl_at (G := G) (ac := ac) hM
  rw [zce_obj hc] at he
  have hnew : ((List.range (zcl ci).2.2).map (zfv G ci w q)).set k (zrl G v) = (List.range (zcl ci).2.2).map (zfv G ci w' q) := by
    refine List.ext_getElem? fun i => ?_
    by_cases e1 : i = k
    · subst e1
      rw [List.getElem?_set_self (by simpa using hk), List.getElem?_map, List.getElem?_range hk, ← hx]
      rfl
    · rw [List.getElem?_set_ne (Ne.symm e1), List.getElem?_map, List.getElem?_map]
      by_cases hi : i < (zcl ci).2.2
      · rw [List.getElem?_range hi]
        exact congrArg some (ho1 i e1).symm
      · rw [List.getElem?_eq_none (by simpa using hi)]
        rfl
  have hset : (zwl G ac w).set q (gb G + q, .inr (ci, ((List.range (zcl ci).2.2).map (zfv G ci w q)).set k (zrl G v))) = zwl G ac w' := by
    rw [hnew]
    exact zwl_set hM hT (zce_obj hc) (fun q' e' => ho ac q' e')
  have fin : ∀ (H1 : Heap) (locs1 : List Loc), va_P (gD G) vwCl ((zwl G ac w).set q (gb G + q, .inr (ci, ((List.range (zcl ci).2.2).map (zfv G ci w q)).set k (zrl G v)))) H1 → va_D (zA G) ((zwl G ac w).set q (gb G + q, .inr (ci, ((List.range (zcl ci).2.2).map (zfv G ci w q)).set k (zrl G v)))) → va_S (zA G) s.heap H1 locs1 →
      W p l e R s m args below meth c H1 locs1 cells slots Qf (F0 m (pc + 3) ls (st.map (zrl G))) := by
    intro H1 locs1 a1 _ a3
    rw [hset] at a1
    exact kk p l e R s m args below meth c H1 locs1 cells slots ac ls Qf C ⟨a1, a3, ⟨hK.1, fun k' e' hk' => hK.2 k' e' (by rw [← hT]; exact hk')⟩, by rw [hT]; exact hz⟩ h1 h2 hL hret
  rcases hfin with hfin | ⟨hin, hde⟩
  · exact va_put (C := (zcl ci).1) (T := (zcl ci).2.1) (N := (zcl ci).2.2) C.1 C.2.1 C.2.2.2.2.1 (zcl_ws ci hc) (zty ci) (zcl_ty ci hc) (zcl_nm ci hc) C.2.2.2.1 hK.1 hP zwl_D hS q he (zcl_at ci hc) k hk (C.2.2.2.2.1 _ (zHas_mem hl)) (fun _ h9 => h9) hfin (zcl_ty ci hc k hk) hn hf (by simpa using hk) h.dec fin
  · by_cases hfin : (((zcl ci).2.1 k).2.2.2 = false)
    · exact va_put (C := (zcl ci).1) (T := (zcl ci).2.1) (N := (zcl ci).2.2) C.1 C.2.1 C.2.2.2.2.1 (zcl_ws ci hc) (zty ci) (zcl_ty ci hc) (zcl_nm ci hc) C.2.2.2.1 hK.1 hP zwl_D hS q he (zcl_at ci hc) k hk (C.2.2.2.2.1 _ (zHas_mem hl)) (fun _ h9 => h9) hfin (zcl_ty ci hc k hk) hn hf (by simpa using hk) h.dec fin
    · exact va_putF (C := (zcl ci).1) (T := (zcl ci).2.1) (N := (zcl ci).2.2) C.1 C.2.1 C.2.2.2.2.1 (zcl_ws ci hc) (zty ci) (zcl_ty ci hc) (zcl_nm ci hc) C.2.2.2.1 hK.1 hP zwl_D hS q he (zcl_at ci hc) k hk (C.2.2.2.2.1 _ (zHas_mem hl)) (fun _ h9 => h9) (by simpa using hfin) (C.2.2.2.2.2.1 hin) hde (zcl_ty ci hc k hk) hn hf (by simpa using hk) h.dec fin
theorem zfv_cong {ci : Nat} {w' : zW} {q j : Nat} (h1 : w'.2.1 q j = w.2.1 q j) (h2 : w'.2.2.1 q j = w.2.2.1 q j) (h3 : w'.2.2.2 q j = w.2.2.2 q j) : zfv G ci w' q j = zfv G ci w q j := by
  unfold zfv
  rw [h1, h2, h3]
theorem zce_cong {ac ac' : Nat → ClassId} {w' : zW} {q : Nat} {e : Nat × Nat} (h0 : ac' q = ac q) (h1 : w'.2.1 q = w.2.1 q) (h2 : w'.2.2.1 q = w.2.2.1 q) (h3 : w'.2.2.2 q = w.2.2.2 q) : zce G ac' w' q e = zce G ac w q e := by
  have hf : zfv G e.1 w' q = zfv G e.1 w q := funext fun j => zfv_cong (by rw [h1]) (by rw [h2]) (by rw [h3])
  unfold zce
  rw [hf, h0, h1, h3]
theorem va_up_s {α : Type} (f : Nat → α) (k : Nat) (v : α) : va_up f k v k = v := if_pos rfl
theorem va_up_n {α : Type} (f : Nat → α) {k j : Nat} (v : α) (h : j ≠ k) : va_up f k v j = f j := if_neg h
theorem upd_s (f : Nat → Int32) (k : Nat) (v : Int32) : upd f k v k = v := if_pos rfl
theorem upd_n (f : Nat → Int32) {k j : Nat} (v : Int32) (h : j ≠ k) : upd f k v j = f j := if_neg h
/-- an int field is written -/
theorem ZW.putI {idx ci k h0 q n : Nat} {x : Int32} (h : zIn mid pc pc' (.putfield idx) 3 [ci, k, h0]) (hc : ci < 12) (hf : zty ci k = .int) (hM : w.1[q]? = some (ci, n)) (hq : q < 1000000)
    (kk : ZW G mid pc' lo st (w.1, va_up w.2.1 q (upd (w.2.1 q) k x), w.2.2.1, w.2.2.2) kc ks Q) : ZW G mid pc lo (.int x :: .ref q :: st) w kc ks Q :=
  ZW.putf (.int x) (w.1, va_up w.2.1 q (upd (w.2.1 q) k x), w.2.2.1, w.2.2.2) h hc hM hq (by rw [hf]; rfl) (by rw [hf]; rfl) rfl (by rw [zfv_0 (by unfold zfk; rw [hf])]; show Value.int (va_up w.2.1 q _ q k) = _; rw [va_up_s, upd_s]; rfl)
    (fun j hj => zfv_cong (by show va_up w.2.1 q _ q j = _; rw [va_up_s, upd_n _ _ hj]) rfl rfl) (fun ac q' e' hne _ => zce_cong rfl (va_up_n _ _ hne) rfl rfl) kk
theorem ZW.putZ {idx ci k h0 q n : Nat} {x : Int32} (h : zIn mid pc pc' (.putfield idx) 3 [ci, k, h0]) (hc : ci < 12) (hf : zty ci k = .boolean) (hx : x = 0 ∨ x = 1) (hM : w.1[q]? = some (ci, n)) (hq : q < 1000000)
    (kk : ZW G mid pc' lo st (w.1, va_up w.2.1 q (upd (w.2.1 q) k x), w.2.2.1, w.2.2.2) kc ks Q) : ZW G mid pc lo (.int x :: .ref q :: st) w kc ks Q :=
  ZW.putf (.int x) (w.1, va_up w.2.1 q (upd (w.2.1 q) k x), w.2.2.1, w.2.2.2) h hc hM hq (by rw [hf]; rcases hx with rfl | rfl <;> rfl) (by rw [hf]; rcases hx with rfl | rfl <;> rfl) rfl (by rw [zfv_0 (by unfold zfk; rw [hf])]; show Value.int (va_up w.2.1 q _ q k) = _; rw [va_up_s, upd_s]; rfl)
    (fun j hj => zfv_cong (by show va_up w.2.1 q _ q j = _; rw [va_up_s, upd_n _ _ hj]) rfl rfl) (fun ac q' e' hne _ => zce_cong rfl (va_up_n _ _ hne) rfl rfl) kk
theorem ZW.putL {idx ci k h0 q n : Nat} {x : Int64} (h : zIn mid pc pc' (.putfield idx) 3 [ci, k, h0]) (hc : ci < 12) (hf : zty ci k = .long) (hM : w.1[q]? = some (ci, n)) (hq : q < 1000000)
    (kk : ZW G mid pc' lo st (w.1, w.2.1, va_up w.2.2.1 q (va_up (w.2.2.1 q) k x), w.2.2.2) kc ks Q) : ZW G mid pc lo (.long x :: .ref q :: st) w kc ks Q :=
  ZW.putf (.long x) (w.1, w.2.1, va_up w.2.2.1 q (va_up (w.2.2.1 q) k x), w.2.2.2) h hc hM hq (by rw [hf]; rfl) (by rw [hf]; rfl) rfl (by rw [zfv_1 (by unfold zfk; rw [hf])]; show Value.long (va_up w.2.2.1 q _ q k) = _; rw [va_up_s, va_up_s]; rfl)
    (fun j hj => zfv_cong rfl (by show va_up w.2.2.1 q _ q j = _; rw [va_up_s, va_up_n _ _ hj]) rfl) (fun ac q' e' hne _ => zce_cong rfl rfl (va_up_n _ _ hne) rfl) kk
theorem ZW.putR {idx ci k h0 q n r : Nat} (h : zIn mid pc pc' (.putfield idx) 3 [ci, k, h0]) (hc : ci < 12) (hf : zfk ci k = 2) (hn : ∀ q, narrow (zty ci k) (.ref q) = .ref q) (hft : ∀ q, fits (zty ci k) (.ref q) = true) (hM : w.1[q]? = some (ci, n)) (hq : q < 1000000) (hr : r < 1000000)
    (kk : ZW G mid pc' lo st (w.1, w.2.1, w.2.2.1, va_up w.2.2.2 q (va_up (w.2.2.2 q) k (some r))) kc ks Q) : ZW G mid pc lo (.ref r :: .ref q :: st) w kc ks Q :=
  ZW.putf (.ref r) (w.1, w.2.1, w.2.2.1, va_up w.2.2.2 q (va_up (w.2.2.2 q) k (some r))) h hc hM hq (by rw [zrl_ref G hr]; exact hn _) (by rw [zrl_ref G hr]; exact hft _) rfl (by rw [zfv_2 hf, zrl_ref G hr]; show va_rf ((va_up w.2.2.2 q _ q k).map _) = _; rw [va_up_s, va_up_s]; rfl)
    (fun j hj => zfv_cong rfl rfl (by show va_up w.2.2.2 q _ q j = _; rw [va_up_s, va_up_n _ _ hj])) (fun ac q' e' hne _ => zce_cong rfl rfl rfl (va_up_n _ _ hne)) kk
/-! arrays -/
theorem zat50 : zat 50 = .int := rfl
theorem zat51 : zat 51 = .byte := rfl
theorem zat52 : zat 52 = .boolean := rfl
theorem zat_ref {c : Nat} (h : 53 ≤ c) : zat c = .object (zcl (c - 53)).1 := by
  unfold zat
  rw [if_neg (by omega), if_neg (by omega), if_neg (by omega)]
theorem ZW.iald {q n : Nat} {i : Int32} (h : zIn mid pc pc' .iaload 1 a) (hM : w.1[q]? = some (50, n)) (hq : q < 1000000) (hin : vp_in i n) (kk : ZW G mid pc' lo (.int (w.2.1 q i.toNatClampNeg) :: st) w kc ks Q) : ZW G mid pc lo (.int i :: .ref q :: st) w kc ks Q := by
  obtain ⟨-, rfl⟩ := id h
  intro p l e R s m args below meth c H locs cells slots ac ls Qf C hH h1 h2 hL hret
  have he := zwl_at (G := G) (ac := ac) hM
  rw [zce_arr (by decide) (by decide)] at he
  rw [List.map_cons, List.map_cons, zrl_ref G hq]
  exact va_iald C.1 C.2.1 (hH.2.2.1.one hM (Nat.le_of_ble_eq_true rfl)) hH.1 q 0 he rfl hin h.dec (kk p l e R s m args below meth c H locs cells slots ac ls Qf C hH h1 h2 hL hret)
theorem ZW.bald {q n : Nat} {i : Int32} (h : zIn mid pc pc' .baload 1 a) (hM : w.1[q]? = some (51, n)) (hq : q < 1000000) (hin : vp_in i n) (kk : ZW G mid pc' lo (.int (w.2.1 q i.toNatClampNeg) :: st) w kc ks Q) : ZW G mid pc lo (.int i :: .ref q :: st) w kc ks Q := by
  obtain ⟨-, rfl⟩ := id h
  intro p l e R s m args below meth c H locs cells slots ac ls Qf C hH h1 h2 hL hret
  have he := zwl_at (G := G) (ac := ac) hM
  rw [zce_arr (by decide) (by decide)] at he
  rw [List.map_cons, List.map_cons, zrl_ref G hq]
  exact va_bald C.1 C.2.1 (hH.2.2.1.one hM (Nat.le_of_ble_eq_true rfl)) hH.1 q 0 he rfl hin h.dec (kk p l e R s m args below meth c H locs cells slots ac ls Qf C hH h1 h2 hL hret)
theorem ZW.zald {q n : Nat} {i : Int32} (h : zIn mid pc pc' .baload 1 a) (hM : w.1[q]? = some (52, n)) (hq : q < 1000000) (hin : vp_in i n) (kk : ZW G mid pc' lo (.int (w.2.1 q i.toNatClampNeg) :: st) w kc ks Q) : ZW G mid pc lo (.int i :: .ref q :: st) w kc ks Q := by
  obtain ⟨-, rfl⟩ := id h
  intro p l e R s m args below meth c H locs cells slots ac ls Qf C hH h1 h2 hL hret
  have he := zwl_at (G := G) (ac := ac) hM
  rw [zce_arr (by decide) (by decide)] at he
  rw [List.map_cons, List.map_cons, zrl_ref G hq]
  exact va_zald C.1 C.2.1 (hH.2.2.1.one hM (Nat.le_of_ble_eq_true rfl)) hH.1 q 0 he rfl hin h.dec (kk p l e R s m args below meth c H locs cells slots ac ls Qf C hH h1 h2 hL hret)
theorem ZW.aald {q cn n r : Nat} {i : Int32} (h : zIn mid pc pc' .aaload 1 a) (hM : w.1[q]? = some (cn, n)) (hcn : 53 ≤ cn) (hq : q < 1000000) (hin : vp_in i n) (hr : w.2.2.2 q i.toNatClampNeg = some r) (hr2 : r < 1000000) (kk : ZW G mid pc' lo (.ref r :: st) w kc ks Q) : ZW G mid pc lo (.int i :: .ref q :: st) w kc ks Q := by
  obtain ⟨-, rfl⟩ := id h
  intro p l e R s m args below meth c H locs cells slots ac ls Qf C hH h1 h2 hL hret
  have he := zwl_at (G := G) (ac := ac) hM
  rw [zce_ref hcn] at he
  rw [List.map_cons, List.map_cons, zrl_ref G hq]
  have key := kk p l e R s m args below meth c H locs cells slots ac ls Qf C hH h1 h2 hL hret
  rw [List.map_cons, zrl_ref G hr2] at key
  refine va_aldq C.1 C.2.1 (hH.2.2.1.one hM (by show 12 ≤ cn; omega)) hH.1 q 0 he (by show some (ac q, zat cn) = _; rw [zat_ref hcn]) hin h.dec ?_
  rw [hr]
  exact key
/-- an array's ints are written: behind the write -/
theorem zwl_row {ac : Nat → ClassId} {q cn n : Nat} {f : Nat → Int32} (hM : w.1[q]? = some (cn, n)) (h1 : 12 ≤ cn) (h2 : cn < 53) : (zwl G ac w).set q (gb G + q, .inl (ac q, n, .inl f)) = zwl G ac (w.1, va_up w.2.1 q f, w.2.2.1, w.2.2.2) :=
  zwl_set hM rfl (by rw [zce_arr h1 h2]; show Sum.inl (ac q, n, Sum.inl (va_up w.2.1 q f q)) = _; rw [va_up_s]) (fun q' e' hne _ => zce_cong rfl (va_up_n _ _ hne) rfl rfl)
theorem ZH.row {ac : Nat → ClassId} {s : State} {H H1 : Heap} {locs locs1 : List Loc} {cells q cn n : Nat} {f : Nat → Int32} (hH : ZH G ac w s H locs cells) (hM : w.1[q]? = some (cn, n)) (h1 : 12 ≤ cn) (h2 : cn < 53) (a1 : va_P (gD G) vwCl ((zwl G ac w).set q (gb G + q, .inl (ac q, n, .inl f))) H1) (a3 : va_S (zA G) s.heap H1 locs1) :
    ZH G ac (w.1, va_up w.2.1 q f, w.2.2.1, w.2.2.2) s H1 locs1 cells := ⟨by rw [zwl_row hM h1 h2] at a1; exact a1, a3, hH.2.2.1, hH.2.2.2⟩
theorem ZW.iast {q n : Nat} {i x : Int32} (h : zIn mid pc pc' .iastore 1 a) (hM : w.1[q]? = some (50, n)) (hq : q < 1000000) (hin : vp_in i n) (kk : ZW G mid pc' lo st (w.1, va_up w.2.1 q (upd (w.2.1 q) i.toNatClampNeg x), w.2.2.1, w.2.2.2) kc ks Q) : ZW G mid pc lo (.int x :: .int i :: .ref q :: st) w kc ks Q := by
  obtain ⟨-, rfl⟩ := id h
  intro p l e R s m args below meth c H locs cells slots ac ls Qf C hH h1 h2 hL hret
  have he := zwl_at (G := G) (ac := ac) hM
  rw [zce_arr (by decide) (by decide)] at he
  rw [List.map_cons, List.map_cons, List.map_cons, zrl_ref G hq]
  exact va_iast C.1 C.2.1 (hH.2.2.1.one hM (Nat.le_of_ble_eq_true rfl)) hH.1 zwl_D hH.2.1 q 0 he rfl hin h.dec (fun H1 locs1 a1 _ a3 => kk p l e R s m args below meth c H1 locs1 cells slots ac ls Qf C (hH.row hM (by decide) (by decide) a1 a3) h1 h2 hL hret)
theorem ZW.bast {q n : Nat} {i x : Int32} (h : zIn mid pc pc' .bastore 1 a) (hM : w.1[q]? = some (51, n)) (hq : q < 1000000) (hin : vp_in i n) (kk : ZW G mid pc' lo st (w.1, va_up w.2.1 q (upd (w.2.1 q) i.toNatClampNeg x.toInt8.toInt32), w.2.2.1, w.2.2.2) kc ks Q) : ZW G mid pc lo (.int x :: .int i :: .ref q :: st) w kc ks Q := by
  obtain ⟨-, rfl⟩ := id h
  intro p l e R s m args below meth c H locs cells slots ac ls Qf C hH h1 h2 hL hret
  have he := zwl_at (G := G) (ac := ac) hM
  rw [zce_arr (by decide) (by decide)] at he
  rw [List.map_cons, List.map_cons, List.map_cons, zrl_ref G hq]
  exact va_bast C.1 C.2.1 (hH.2.2.1.one hM (Nat.le_of_ble_eq_true rfl)) hH.1 zwl_D hH.2.1 q 0 he rfl hin h.dec (fun H1 locs1 a1 _ a3 => kk p l e R s m args below meth c H1 locs1 cells slots ac ls Qf C (hH.row hM (by decide) (by decide) (by rw [vp_nar_byte] at a1; exact a1) a3) h1 h2 hL hret)
theorem ZW.zast {q n : Nat} {i x : Int32} (h : zIn mid pc pc' .bastore 1 a) (hM : w.1[q]? = some (52, n)) (hq : q < 1000000) (hin : vp_in i n) (hx : x = 0 ∨ x = 1) (kk : ZW G mid pc' lo st (w.1, va_up w.2.1 q (upd (w.2.1 q) i.toNatClampNeg x), w.2.2.1, w.2.2.2) kc ks Q) : ZW G mid pc lo (.int x :: .int i :: .ref q :: st) w kc ks Q := by
  obtain ⟨-, rfl⟩ := id h
  intro p l e R s m args below meth c H locs cells slots ac ls Qf C hH h1 h2 hL hret
  have he := zwl_at (G := G) (ac := ac) hM
  rw [zce_arr (by decide) (by decide)] at he
  rw [List.map_cons, List.map_cons, List.map_cons, zrl_ref G hq]
  have hnx : vp_nar .boolean x = x := by rcases hx with rfl | rfl <;> rfl
  exact va_zast C.1 C.2.1 (hH.2.2.1.one hM (Nat.le_of_ble_eq_true rfl)) hH.1 zwl_D hH.2.1 q 0 he rfl hin h.dec (fun H1 locs1 a1 _ a3 => kk p l e R s m args below meth c H1 locs1 cells slots ac ls Qf C (hH.row hM (by decide) (by decide) (by rw [hnx] at a1; exact a1) a3) h1 h2 hL hret)
theorem ZW.aast {q n ci r n2 : Nat} {i : Int32} (h : zIn mid pc pc' .aastore 1 a) (hci : ci < 12) (hM : w.1[q]? = some (53 + ci, n)) (hq : q < 1000000) (hin : vp_in i n) (hr : w.1[r]? = some (ci, n2)) (hr2 : r < 1000000) (kk : ZW G mid pc' lo st (w.1, w.2.1, w.2.2.1, va_up w.2.2.2 q (va_up (w.2.2.2 q) i.toNatClampNeg (some r))) kc ks Q) : ZW G mid pc lo (.ref r :: .int i :: .ref q :: st) w kc ks Q := by
  obtain ⟨-, rfl⟩ := id h
  intro p l e R s m args below meth c H locs cells slots ac ls Qf C hH h1 h2 hL hret
  have he := zwl_at (G := G) (ac := ac) hM
  rw [zce_ref (by omega)] at he
  have her := zwl_at (G := G) (ac := ac) hr
  rw [zce_obj hci] at her
  rw [List.map_cons, List.map_cons, List.map_cons, zrl_ref G hq, zrl_ref G hr2]
  refine va_astq (r := zcl ci) C.1 C.2.1 (hH.2.2.1.one hM (by show 12 ≤ 53 + ci; omega)) hH.1 zwl_D hH.2.1 q 0 r ci he (by show some (ac q, zat (53 + ci)) = _; rw [zat_ref (by omega), show 53 + ci - 53 = ci by omega]) her (zcl_at ci hci) hin h.dec (fun H1 locs1 a1 _ a3 => ?_)
  have hset : (zwl G ac w).set q (gb G + q, .inl (ac q, n, .inr (.inr (.inr (.inr (va_up (fun j => (w.2.2.2 q j).map (fun r => gb G + r)) i.toNatClampNeg (some (gb G + r)))))))) = zwl G ac (w.1, w.2.1, w.2.2.1, va_up w.2.2.2 q (va_up (w.2.2.2 q) i.toNatClampNeg (some r))) := by
    refine zwl_set hM rfl ?_ (fun q' e' hne _ => zce_cong rfl rfl rfl (va_up_n _ _ hne))
    rw [zce_ref (by omega)]
    have hf : (fun j => (va_up w.2.2.2 q (va_up (w.2.2.2 q) i.toNatClampNeg (some r)) q j).map (fun r => gb G + r)) = va_up (fun j => (w.2.2.2 q j).map (fun r => gb G + r)) i.toNatClampNeg (some (gb G + r)) := by
      funext j
      rw [va_up_s]
      by_cases hj : j = i.toNatClampNeg
      · subst hj; rw [va_up_s, va_up_s]; rfl
      · rw [va_up_n _ _ hj, va_up_n _ _ hj]
    show Sum.inl (ac q, n, Sum.inr (Sum.inr (Sum.inr (Sum.inr (fun j => (va_up w.2.2.2 q (va_up (w.2.2.2 q) i.toNatClampNeg (some r)) q j).map (fun r => gb G + r)))))) = _
    rw [hf]
  rw [hset] at a1
  exact kk p l e R s m args below meth c H1 locs1 cells slots ac ls Qf C ⟨a1, a3, hH.2.2.1, hH.2.2.2⟩ h1 h2 hL hret
/-- an array's length -/
theorem ZW.alen {q cn n : Nat} (h : zIn mid pc pc' .arraylength 1 a) (hM : w.1[q]? = some (cn, n)) (h12 : 12 ≤ cn) (hq : q < 1000000) (kk : ZW G mid pc' lo (.int (nI n) :: st) w kc ks Q) : ZW G mid pc lo (.ref q :: st) w kc ks Q := by
  obtain ⟨-, rfl⟩ := id h
  intro p l e R s m args below meth c H locs cells slots ac ls Qf C hH h1 h2 hL hret
  have he := zwl_at (G := G) (ac := ac) hM
  rw [List.map_cons, zrl_ref G hq]
  rcases Nat.lt_or_ge cn 53 with h53 | h53
  · rw [zce_arr h12 h53] at he
    exact va_alen C.1 C.2.1 (hH.2.2.1.one hM h12) hH.1 q 0 he rfl rfl h.dec (kk p l e R s m args below meth c H locs cells slots ac ls Qf C hH h1 h2 hL hret)
  · rw [zce_ref h53] at he
    exact va_alen C.1 C.2.1 (hH.2.2.1.one hM h12) hH.1 q 0 he rfl rfl h.dec (kk p l e R s m args below meth c H locs cells slots ac ls Qf C hH h1 h2 hL hret)
/-- the script -/
theorem ZW.sld {i : Int32} (h : zIn mid pc pc' .iaload 1 a) (hin : vp_in i (gsL G)) (kk : ZW G mid pc' lo (.int (gxs G i.toNatClampNeg) :: st) w kc ks Q) : ZW G mid pc lo (.int i :: .ref 1000000 :: st) w kc ks Q := by
  obtain ⟨-, rfl⟩ := id h
  intro p l e R s m args below meth c H locs cells slots ac ls Qf C hH h1 h2 hL hret
  obtain ⟨z1, z2, z3, -⟩ := C.2.2.2.2.2.2.1
  exact va_sld C.1 C.2.1 z1 (by omega) (fun z => by have z' : gb G ≤ gsb G := z; omega) hH.2.1 hin h.dec (kk p l e R s m args below meth c H locs cells slots ac ls Qf C hH h1 h2 hL hret)
theorem ZW.slen (h : zIn mid pc pc' .arraylength 1 a) (kk : ZW G mid pc' lo (.int (nI (gsL G)) :: st) w kc ks Q) : ZW G mid pc lo (.ref 1000000 :: st) w kc ks Q := by
  obtain ⟨-, rfl⟩ := id h
  intro p l e R s m args below meth c H locs cells slots ac ls Qf C hH h1 h2 hL hret
  obtain ⟨z1, z2, z3, -⟩ := C.2.2.2.2.2.2.1
  exact va_slen C.1 C.2.1 z1 (by omega) (fun z => by have z' : gb G ≤ gsb G := z; omega) hH.2.1 h.dec (kk p l e R s m args below meth c H locs cells slots ac ls Qf C hH h1 h2 hL hret)
/-- where a new cell lies -/
theorem znew_at {ac : Nat → ClassId} {s : State} {H1 : Heap} {cells q : Nat} {x : va_E} (hz : s.heap.size + cells = gb G + w.1.length) (a1 : va_P (gD G) vwCl (zwl G ac w ++ [(q, x)]) H1) (a2 : va_D (zA G) (zwl G ac w ++ [(q, x)])) (hs : H1.size ≤ s.heap.size + (cells + 1)) : q = gb G + w.1.length := by
  have hl : (zwl G ac w).length = w.1.length := by unfold zwl; simp
  have hat : (zwl G ac w ++ [(q, x)])[w.1.length]? = some (q, x) := by rw [List.getElem?_append_right (by rw [hl]; exact Nat.le_refl _), hl, Nat.sub_self]; rfl
  have hlt := (a1 _ _ hat).lt
  have hge : gb G ≤ q := a2.2 _ _ hat
  rcases Nat.lt_or_ge q (gb G + w.1.length) with h | h
  · exfalso
    have hk : q - gb G < w.1.length := by omega
    have hw : w.1[q - gb G]? = some (w.1[q - gb G]) := List.getElem?_eq_getElem hk
    have h2 := zwl_at (G := G) (ac := ac) hw
    have h3 : (zwl G ac w ++ [(q, x)])[q - gb G]? = some (gb G + (q - gb G), zce G ac w (q - gb G) (w.1[q - gb G])) := by rw [List.getElem?_append_left (by rw [hl]; exact hk)]; exact h2
    have := a2.1 _ _ _ _ h3 hat (by show gb G + (q - gb G) = q; omega)
    omega
  · have hlt' : q < H1.size := hlt
    omega
/-- a new object: its fields at their defaults -/
theorem ZW.new {idx ci h1' h2' h3' : Nat} (h : zIn mid pc pc' (.new idx) 3 [ci, h1', h2', h3']) (hc : ci < 12) (hN : w.1.length < 1000000)
    (kk : ZW G mid pc' lo (.ref w.1.length :: st) (w.1 ++ [(ci, 0)], va_up w.2.1 w.1.length (fun _ => 0), va_up w.2.2.1 w.1.length (fun _ => 0), va_up w.2.2.2 w.1.length (fun _ => none)) kc ks Q) : ZW G mid pc lo st w (kc + 1) (ks + (zcl ci).2.2) Q := by
  obtain ⟨-, rfl⟩ := id h
  have hck := h.ck.2
  simp only [zCkI, List.getD_cons_zero, List.getD_cons_succ, Bool.and_eq_true, decide_eq_true_eq] at hck
  obtain ⟨-, k1, k2, k3⟩ := hck
  intro p l e R s m args below meth c H locs cells slots ac ls Qf C hH h1 h2 hL hret
  obtain ⟨hP, hS, hK, hz⟩ := hH
  refine va_new (fs := (List.range (zcl ci).2.2).map (zfv G ci (w.1 ++ [(ci, 0)], va_up w.2.1 w.1.length (fun _ => 0), va_up w.2.2.1 w.1.length (fun _ => 0), va_up w.2.2.2 w.1.length (fun _ => none)) w.1.length)) (C := (zcl ci).1) (T := (zcl ci).2.1) (N := (zcl ci).2.2) C.1 C.2.1 C.2.2.2.2.1 (zcl_ws ci hc) (zty ci) (zcl_ty ci hc) C.2.2.2.1 (C.2.2.2.2.1 _ (zHas_mem k1)) (C.2.2.2.2.1 _ (zHas_mem k2)) (C.2.2.2.2.1 _ (zHas_mem k3)) hK.1 hP zwl_D hS C.hA (zcl_at ci hc) ?_ (by omega) (by omega) h.dec (fun q H1 a1 a2 a3 => ?_)
  · intro j hj
    unfold vp_V
    rw [List.getD_eq_getElem?_getD, List.getElem?_map, List.getElem?_range hj]
    show defaultValue (zty ci j) = zfv G ci _ w.1.length j
    unfold zfv
    have hall : ∀ ci, ci < 12 → ∀ j, j < (zcl ci).2.2 → zty ci j = .long ∨ zty ci j = .int ∨ zty ci j = .boolean ∨ defaultValue (zty ci j) = .null := by decide +kernel
    rcases hall ci hc j hj with e | e | e | e
    · rw [e]; show Value.long 0 = .long (va_up w.2.2.1 w.1.length _ w.1.length j); rw [va_up_s]
    · rw [e]; show Value.int 0 = .int (va_up w.2.1 w.1.length _ w.1.length j); rw [va_up_s]
    · rw [e]; show Value.int 0 = .int (va_up w.2.1 w.1.length _ w.1.length j); rw [va_up_s]
    · rw [e]
      split
      · rename_i e2; rw [e2] at e; cases e
      · rename_i e2; rw [e2] at e; cases e
      · rename_i e2; rw [e2] at e; cases e
      · show Value.null = va_rf ((va_up w.2.2.2 w.1.length _ w.1.length j).map _); rw [va_up_s]; rfl
  · refine W.sz fun hs => ?_
    have hq := znew_at hz a1 a2 hs
    subst hq
    rw [zwl_push ac (w' := (w.1 ++ [(ci, 0)], va_up w.2.1 w.1.length (fun _ => 0), va_up w.2.2.1 w.1.length (fun _ => 0), va_up w.2.2.2 w.1.length (fun _ => none))) rfl (zce_obj hc) (fun q' e' hl' _ => zce_cong rfl (va_up_n _ _ (by omega)) (va_up_n _ _ (by omega)) (va_up_n _ _ (by omega)))] at a1
    have key := kk p l e R s m args below meth c H1 locs (cells + 1) (slots + (zcl ci).2.2) ac ls Qf C ⟨a1, a3, ⟨hK.1, fun k' e' hk' h12 => ?_⟩, by show _ = gb G + (w.1 ++ [(ci, 0)]).length; rw [List.length_append]; simp; omega⟩ (by omega) (by omega) hL hret
    · rw [List.map_cons, zrl_ref G hN] at key
      exact key
    · have hk2 : (w.1 ++ [(ci, 0)])[k']? = some e' := hk'
      by_cases hl' : k' < w.1.length
      · rw [List.getElem?_append_left hl'] at hk2
        exact hK.2 k' e' hk2 h12
      · rw [List.getElem?_append_right (by omega)] at hk2
        have : k' - w.1.length = 0 := by have := (List.getElem?_eq_some_iff.mp hk2).1; simp at this; omega
        rw [this] at hk2
        cases hk2
        exact absurd h12 (by show ¬ 12 ≤ ci; omega)
end ZCELLS
end
section
/-! WALKS: arrays made, copies, calls, contracts -/
section ZCALLS
variable {G : zG} {mid pc pc' : Nat} {lo : List (Option Value)} {st : List Value} {w : zW} {kc ks : Nat} {Q : Option Value → zW → Prop} {a : List Nat}
theorem zK.push {ac : Nat → ClassId} {w' : zW} {s : State} {cn n : Nat} {cA : ClassId} (hK : zK G ac w s) (hT : w'.1 = w.1 ++ [(cn, n)]) (k : va_K (gD G) vwCl ([] ++ [(cA, zat cn)]) s) : zK G (va_up ac w.1.length cA) w' s := by
  refine ⟨hK.1, fun k' e' hk' h12 => ?_⟩
  rw [hT] at hk'
  by_cases hl' : k' < w.1.length
  · rw [List.getElem?_append_left hl'] at hk'
    rw [va_up_n _ _ (by omega)]
    exact hK.2 k' e' hk' h12
  · rw [List.getElem?_append_right (by omega)] at hk'
    have h0 : k' - w.1.length = 0 := by have := (List.getElem?_eq_some_iff.mp hk').1; simp at this; omega
    rw [h0] at hk'
    cases hk'
    have e : k' = w.1.length := by omega
    rw [e, va_up_s]
    exact k.2 0 (cA, zat cn) rfl
/-- a new array of ints, bytes or booleans -/
theorem ZW.newa {t : ArrayType} {h0 cn N : Nat} {n : Int32} (h : zIn mid pc pc' (.newarray t) 2 [h0]) (hcn : 50 ≤ cn) (hcn2 : cn < 53) (hty : newarray.typeOf t = zat cn) (hn : n = nI N) (hN : N ≤ 100000) (hL : w.1.length < 1000000)
    (kk : ZW G mid pc' lo (.ref w.1.length :: st) (w.1 ++ [(cn, N)], va_up w.2.1 w.1.length (fun _ => 0), w.2.2.1, w.2.2.2) kc ks Q) : ZW G mid pc lo (.int n :: st) w (kc + 1) (ks + N) Q := by
  obtain ⟨-, rfl⟩ := id h
  subst hn
  have hck := h.ck.2
  simp only [zCkI, List.getD_cons_zero] at hck
  intro p l e R s m args below meth c H locs cells slots ac ls Qf C hH h1 h2 hL2 hret
  obtain ⟨hP, hS, hK, hz⟩ := hH
  have hcl : (nI N).toNatClampNeg = N := nI_clamp (by omega)
  have hd : defaultValue (zat cn) = .int 0 := by
    have : cn = 50 ∨ cn = 51 ∨ cn = 52 := by omega
    rcases this with rfl | rfl | rfl <;> rfl
  have hcb : componentBytes (zat cn) ≤ 4 := by
    have : cn = 50 ∨ cn = 51 ∨ cn = 52 := by omega
    rcases this with rfl | rfl | rfl <;> decide
  refine va_newa (a0 := (N, .inl (fun _ => 0))) C.1 C.2.1 (C.2.2.2.2.1 _ (zHas_mem hck)) hty hK.1 hP zwl_D hS C.hA (fun cA => by rw [hd]; rfl) (nI_pos (by omega)) hcl (Nat.le_trans (Nat.mul_le_mul hN hcb) (by decide)) (by omega) (by omega) h.dec (fun q cA H1 a0 a1 a2 a3 => ?_)
  refine W.sz fun hs => ?_
  have hq := znew_at hz a1 a2 hs
  subst hq
  rw [zwl_push (va_up ac w.1.length cA) (w' := (w.1 ++ [(cn, N)], va_up w.2.1 w.1.length (fun _ => 0), w.2.2.1, w.2.2.2)) (e := (cn, N)) rfl (by rw [zce_arr (by omega) (by omega)]; show Sum.inl (va_up ac w.1.length cA w.1.length, N, Sum.inl (va_up w.2.1 w.1.length (fun _ => 0) w.1.length)) = _; rw [va_up_s, va_up_s]) (fun q' e' hl' _ => zce_cong (va_up_n _ _ (by omega)) (va_up_n _ _ (by omega)) rfl rfl)] at a1
  have key := kk p l e R s m args below meth c H1 locs (cells + 1) (slots + N) _ ls Qf C ⟨a1, a3, hK.push rfl a0, by show _ = gb G + (w.1 ++ [(cn, N)]).length; rw [List.length_append]; simp; omega⟩ (by omega) (by omega) hL2 hret
  rw [List.map_cons, zrl_ref G hL] at key
  exact key
/-- a new array of objects of the class ci -/
theorem ZW.newq {idx ci h1' h2' N : Nat} {n : Int32} (h : zIn mid pc pc' (.anewarray idx) 3 [ci, h1', h2']) (hc : ci < 12) (hn : n = nI N) (hN : N ≤ 100000) (hL : w.1.length < 1000000)
    (kk : ZW G mid pc' lo (.ref w.1.length :: st) (w.1 ++ [(53 + ci, N)], w.2.1, w.2.2.1, va_up w.2.2.2 w.1.length (fun _ => none)) kc ks Q) : ZW G mid pc lo (.int n :: st) w (kc + 1) (ks + N) Q := by
  obtain ⟨-, rfl⟩ := id h
  subst hn
  have hck := h.ck.2
  simp only [zCkI, List.getD_cons_zero, List.getD_cons_succ, Bool.and_eq_true, decide_eq_true_eq] at hck
  obtain ⟨-, k1, k2⟩ := hck
  intro p l e R s m args below meth c H locs cells slots ac ls Qf C hH h1 h2 hL2 hret
  obtain ⟨hP, hS, hK, hz⟩ := hH
  have hcl : (nI N).toNatClampNeg = N := nI_clamp (by omega)
  refine va_newq (C := (zcl ci).1) C.1 C.2.1 C.2.2.2.1 (C.2.2.2.2.1 _ (zHas_mem k1)) (C.2.2.2.2.2.2.1.2.2.2.2.2.2.2.2 _ (zHasA_mem k2)) hK.1 hP zwl_D hS C.hA (nI_pos (by omega)) hcl (by omega) (by omega) (by omega) h.dec (fun q cA H1 a0 a1 a2 a3 => ?_)
  refine W.sz fun hs => ?_
  have hq := znew_at hz a1 a2 hs
  subst hq
  have hzat : zat (53 + ci) = .object (zcl ci).1 := by rw [zat_ref (by omega), show 53 + ci - 53 = ci by omega]
  rw [zwl_push (va_up ac w.1.length cA) (w' := (w.1 ++ [(53 + ci, N)], w.2.1, w.2.2.1, va_up w.2.2.2 w.1.length (fun _ => none))) (e := (53 + ci, N)) rfl (by rw [zce_ref (by omega)]; show Sum.inl (va_up ac w.1.length cA w.1.length, N, Sum.inr (Sum.inr (Sum.inr (Sum.inr (fun j => (va_up w.2.2.2 w.1.length (fun _ => none) w.1.length j).map (fun r => gb G + r)))))) = _; rw [va_up_s, va_up_s]; rfl) (fun q' e' hl' _ => zce_cong (va_up_n _ _ (by omega)) rfl rfl (va_up_n _ _ (by omega)))] at a1
  have key := kk p l e R s m args below meth c H1 locs (cells + 1) (slots + N) _ ls Qf C ⟨a1, a3, hK.push rfl (by rw [hzat]; exact a0), by show _ = gb G + (w.1 ++ [(53 + ci, N)]).length; rw [List.length_append]; simp; omega⟩ (by omega) (by omega) hL2 hret
  rw [List.map_cons, zrl_ref G hL] at key
  exact key
theorem zcats {st : List Value} (h : st.length ≤ 4) : ((st.map (zrl G)).map fun v => v.category).sum ≤ 8 := by
  have : ∀ l : List Value, (l.map fun v => v.category).sum ≤ 2 * l.length := by
    intro l
    induction l with
    | nil => simp
    | cons v t ih =>
      simp only [List.map_cons, List.sum_cons, List.length_cons]
      have : v.category ≤ 2 := by rcases lv_cat v with h | h <;> omega
      omega
  have := this (st.map (zrl G))
  rw [List.length_map] at this
  omega
theorem ZW.mmax {idx k1 k2 k3 k4 : Nat} {x y : Int32} (h : zIn mid pc pc' (.invokestatic idx) 3 [1000, k1, k2, k3, k4]) (hr : st.length ≤ 4) (kk : ZW G mid pc' lo (.int (if x < y then y else x) :: st) w kc ks Q) : ZW G mid pc lo (.int y :: .int x :: st) w kc ks Q := by
  obtain ⟨-, rfl⟩ := id h
  have hck := h.ck.2
  simp only [zCkI, List.getD_cons_zero, List.getD_cons_succ, Bool.and_eq_true, decide_eq_true_eq] at hck
  rw [if_neg (by decide), if_pos trivial] at hck
  obtain ⟨f1, f2, g1, g2, g3, g4⟩ := by simpa only [Bool.and_eq_true, decide_eq_true_eq] using hck
  intro p l e R s m args below meth c H locs cells slots ac ls Qf C hH h1 h2 hL hret
  have hc := zcats (G := G) hr
  have hf := C.2.2.2.2.2.2.2.1
  have hl := C.2.2.2.2.2.2.2.2
  exact va_mmax C.1 C.2.1 (C.2.2.1.trans hL.1.symm) C.2.2.2.1 (C.2.2.2.2.1 _ (zHas_mem g1)) (C.2.2.2.2.1 _ (zHas_mem g2)) (C.2.2.2.2.1 _ (zHas_mem g3)) (C.2.2.2.2.1 _ (zHas_mem g4)) (by omega) (by omega) (by omega) (by omega) h.dec (kk p l e R s m args below meth c H locs cells slots ac ls Qf C hH h1 h2 hL hret)
theorem ZW.mmin {idx k1 k2 k3 k4 : Nat} {x y : Int32} (h : zIn mid pc pc' (.invokestatic idx) 3 [1001, k1, k2, k3, k4]) (hr : st.length ≤ 4) (kk : ZW G mid pc' lo (.int (if y < x then y else x) :: st) w kc ks Q) : ZW G mid pc lo (.int y :: .int x :: st) w kc ks Q := by
  obtain ⟨-, rfl⟩ := id h
  have hck := h.ck.2
  simp only [zCkI, List.getD_cons_zero, List.getD_cons_succ, Bool.and_eq_true, decide_eq_true_eq] at hck
  rw [if_neg (by decide), if_neg (by decide), if_pos trivial] at hck
  obtain ⟨f1, f2, g1, g2, g3, g4⟩ := by simpa only [Bool.and_eq_true, decide_eq_true_eq] using hck
  intro p l e R s m args below meth c H locs cells slots ac ls Qf C hH h1 h2 hL hret
  have hc := zcats (G := G) hr
  have hf := C.2.2.2.2.2.2.2.1
  have hl := C.2.2.2.2.2.2.2.2
  exact va_mmin C.1 C.2.1 (C.2.2.1.trans hL.1.symm) C.2.2.2.1 (C.2.2.2.2.1 _ (zHas_mem g1)) (C.2.2.2.2.1 _ (zHas_mem g2)) (C.2.2.2.2.1 _ (zHas_mem g3)) (C.2.2.2.2.1 _ (zHas_mem g4)) (by omega) (by omega) (by omega) (by omega) h.dec (kk p l e R s m args below meth c H locs cells slots ac ls Qf C hH h1 h2 hL hret)
/-- System.arraycopy between arrays of ints -/
theorem ZW.copy {idx k1 k2 k3 k4 q0 q1 n0 n1 sp dp n : Nat} {x1 x2 x3 : Int32} (h : zIn mid pc pc' (.invokestatic idx) 3 [1002, k1, k2, k3, k4]) (hr : st.length ≤ 4) (hM0 : w.1[q0]? = some (50, n0)) (hM1 : w.1[q1]? = some (50, n1)) (hq0 : q0 < 1000000) (hq1 : q1 < 1000000)
    (e1 : x1 = nI sp) (e2 : x2 = nI dp) (e3 : x3 = nI n) (hs : sp + n ≤ n0) (hd : dp + n ≤ n1) (hb : n0 < 2 ^ 31) (hb1 : n1 < 2 ^ 31)
    (kk : ZW G mid pc' lo st (w.1, va_up w.2.1 q1 (va_cpy (w.2.1 q0) (w.2.1 q1) sp dp n), w.2.2.1, w.2.2.2) kc ks Q) : ZW G mid pc lo (.int x3 :: .int x2 :: .ref q1 :: .int x1 :: .ref q0 :: st) w kc ks Q := by
  obtain ⟨-, rfl⟩ := id h
  subst e1; subst e2; subst e3
  have hck := h.ck.2
  simp only [zCkI, List.getD_cons_zero, List.getD_cons_succ, Bool.and_eq_true, decide_eq_true_eq] at hck
  rw [if_neg (by decide), if_neg (by decide), if_neg (by decide), if_pos trivial] at hck
  obtain ⟨f1, f2, g1, g2, g3, g4⟩ := by simpa only [Bool.and_eq_true, decide_eq_true_eq] using hck
  intro p l e R s m args below meth c H locs cells slots ac ls Qf C hH h1 h2 hL hret
  have hc := zcats (G := G) hr
  have hf := C.2.2.2.2.2.2.2.1
  have hl := C.2.2.2.2.2.2.2.2
  have he0 := zwl_at (G := G) (ac := ac) hM0
  rw [zce_arr (by decide) (by decide)] at he0
  have he1 := zwl_at (G := G) (ac := ac) hM1
  rw [zce_arr (by decide) (by decide)] at he1
  have c1 : (nI sp).toNatClampNeg = sp := nI_clamp (by omega)
  have c2 : (nI dp).toNatClampNeg = dp := nI_clamp (by omega)
  have c3 : (nI n).toNatClampNeg = n := nI_clamp (by omega)
  rw [List.map_cons, List.map_cons, List.map_cons, List.map_cons, List.map_cons, zrl_ref G hq0, zrl_ref G hq1]
  refine va_copyi C.1 C.2.1 (C.2.2.1.trans hL.1.symm) C.2.2.2.1 (C.2.2.2.2.1 _ (zHas_mem g1)) (C.2.2.2.2.1 _ (zHas_mem g2)) (C.2.2.2.2.1 _ (zHas_mem g3)) (C.2.2.2.2.1 _ (zHas_mem g4)) (hH.2.2.1.two hM0 (Nat.le_of_ble_eq_true rfl) hM1 (Nat.le_of_ble_eq_true rfl)) hH.1 zwl_D hH.2.1 q0 q1 0 1 he0 he1 rfl rfl rfl (nI_pos (by omega)) (nI_pos (by omega)) (nI_pos (by omega)) (by rw [c1, c3]; exact hs) (by rw [c2, c3]; exact hd) (fun _ _ => rfl) (by omega) ?_ h.dec (fun H1 locs1 a1 _ a3 => ?_)
  · have hw : nativeFrameWords "java/lang/System" "arraycopy" 5 = 7 := by decide +kernel
    rw [hw]
    omega
  · rw [c1, c2, c3] at a1
    exact kk p l e R s m args below meth c H1 locs1 cells slots ac ls Qf C (hH.row hM1 (by decide) (by decide) a1 a3) h1 h2 hL hret
theorem ZW.oinit {idx k1 k2 k3 q : Nat} (h : zIn mid pc pc' (.invokespecial idx) 3 [1003, k1, k2, k3]) (hr : st.length ≤ 4) (hq : q < 1000000) (kk : ZW G mid pc' lo st w kc ks Q) : ZW G mid pc lo (.ref q :: st) w kc ks Q := by
  obtain ⟨-, rfl⟩ := id h
  have hck := h.ck.2
  simp only [zCkI, List.getD_cons_zero, List.getD_cons_succ] at hck
  rw [if_pos trivial] at hck
  obtain ⟨f1, f2, g1, g2, g3⟩ := by simpa only [Bool.and_eq_true, decide_eq_true_eq] using hck
  intro p l e R s m args below meth c H locs cells slots ac ls Qf C hH h1 h2 hL hret
  have hc := zcats (G := G) hr
  have hf := C.2.2.2.2.2.2.2.1
  have hl := C.2.2.2.2.2.2.2.2
  rw [List.map_cons, zrl_ref G hq]
  exact W.objInit C.1 C.2.1 C.2.2.2.1 (C.2.2.2.2.1 _ (zHas_mem g1)) (C.2.2.2.2.1 _ (zHas_mem g2)) (C.2.2.2.2.1 _ (zHas_mem g3)) rfl (hL.1.trans C.2.2.1.symm) rfl h.dec (by omega) (by have := lv_room (rest := st.map (zrl G)) (pc := pc) (m := m) (ls := ls) hc; show 2 * 0 + _ + 12 ≤ _; omega) (kk p l e R s m args below meth c H locs cells slots ac ls Qf C hH h1 h2 hL hret)
/-! contracts -/
def ZM (G : zG) (mid : Nat) (av : List Value) (w : zW) (kc ks : Nat) (Q : Option Value → zW → Prop) : Prop := ZW G mid 0 (zent av (zL mid)) [] w kc ks Q
def zws (mid : Nat) : List Cond := Cond.code (zy mid) (zb mid) (zL mid) (zr mid) :: zbig
def zPre (G : zG) (w : zW) (U : State) : Prop := U.heap.size = gb G + w.1.length ∧ zS G U U.heap ∧ ∃ ac : Nat → ClassId, va_P (gD G) vwCl (zwl G ac w) U.heap ∧ zK G ac w U
def zQ (G : zG) (Q : Option Value → zW → Prop) : Array Value → State → Outcome → State → Prop := fun _ st o t =>
  (∃ (r : Option Value) (w' : zW), o = .returned r ∧ (∀ v, r = some v → zrl G v = v) ∧ Q r w' ∧ ∃ ac' : Nat → ClassId, va_P (gD G) vwCl (zwl G ac' w') t.heap ∧ zK G ac' w' t) ∧ va_F (zA G) st t
theorem ZM.met {av : List Value} (hk : ZM G mid av w kc ks Q) (hlen : (zargs av).length ≤ zL mid) (l : Launch) :
    Met l (zy mid) (zws mid) ({ frames := zf mid, cells := kc, slots := ks, locals := zq mid }) (va_Pc (av.map (zrl G)) (zPre G w)) (zQ G Q) kc ks (zA G) := by
  refine Met.ofW (cc := zb mid) (maxL := zL mid) (ret := zr mid) (zpl mid) rfl ?_
  intro p e s m args below meth c s₁ B hml hv
  obtain ⟨rfl, hsz, hS0, ac, hP, hK⟩ := hv
  have hts := atoms_spec (ws := zws mid) B.pre
  have hl := lv_entry (av.map (zrl G)) (n := zL mid) (by rw [← zargs_len]; exact hlen)
  rw [lg_entry_eq]
  generalize (lg_sl (av.map (zrl G)) ++ List.replicate (zL mid - (lg_sl (av.map (zrl G))).length) Slot.unset).toArray = ls at hl ⊢
  refine hk p l e _ s m _ below meth c s.heap [] 0 0 ac ls _ ⟨B.exec, B.bytes, hml, findClass_of_methodNamed B.named, fun w hw => hts w (List.mem_cons_of_mem _ hw), fun _ => (name_of_methodNamed B.named B.method).1.trans (by assumption), hS0, Nat.le_refl _, Nat.le_refl _⟩ ⟨hP, va_S.rf, hK, by rw [Nat.add_zero]; exact hsz⟩ (by rw [Nat.zero_add]; exact Nat.le_refl _) (by rw [Nat.zero_add]; exact Nat.le_refl _) (zLh.ent hl) ?_
  intro r w' H' locs' cells' slots' ac' pc' ls' hq hH' hc1 hc2 hr
  have hlocks : meth.locks = false := B.notSynchronized
  refine W.widen (k := kc) (n := ks) hc1 hc2 ?_
  have fin : ∀ (o : Outcome) (t : State), t.heap = H' → s.WarmedH t.vm → o = .returned r → (∀ v, r = some v → zrl G v = v) → zQ G Q ((av.map (zrl G)).toArray) s o t := by
    intro o t ht hW ho hrl
    exact ⟨⟨r, w', ho, hrl, hq, ac', by rw [ht]; exact hH'.1, hH'.2.2.1.moved hW.alike⟩, hH'.2.1.F ht⟩
  match r, hr, fin with
  | none, hr, fin => exact W.vret B.exec B.bytes (B.returns.trans hr.1) (fun t ht hW => fin _ t ht hW rfl (fun v h => by cases h)) hH'.2.1.2.2 hr.2
  | some (.int v), hr, fin =>
    obtain ⟨⟨ty, h1, h2⟩, h3⟩ := hr
    exact W.zret (v := v) B.exec B.bytes (B.returns.trans h1) h2 (fun t ht hW => fin _ t ht hW rfl (fun v h => by cases h; rfl)) hH'.2.1.2.2 h3
  | some (.long v), hr, fin => exact W.lret (v := v) B.exec B.bytes (B.returns.trans hr.1) (fun t ht hW => fin _ t ht hW rfl (fun v h => by cases h; rfl)) hH'.2.1.2.2 hr.2
  | some .null, hr, _ => exact hr.elim
  | some (.ref _), hr, _ => exact hr.elim
  | some (.float _), hr, _ => exact hr.elim
  | some (.double _), hr, _ => exact hr.elim
  | some (.retAddr _), hr, _ => exact hr.elim
theorem zPre_blind {av : List Value} : FrameBlind (va_Pc av (zPre G w)) := by
  intro a U g mk q
  obtain ⟨q0, q1, q2, ac, q3, q4⟩ := q
  exact ⟨q0, q1, zS.moved (u := U) (U := U.calling g mk a) (State.WarmedH.refl U) q2 (Nat.le_refl _) (fun _ _ _ => rfl), ac, q3, zK.moved (u := U) (U := U.calling g mk a) (Vm.Alike.refl U.vm) q4⟩
/-- the world at a call -/
theorem zPre_of {p : Program} {R : Room} {s : State} {m : MethodId} {args : Array Value} {meth : Method} {c : Code} {H : Heap} {locs : List Loc} {cells : Nat} {ac : Nat → ClassId} (C : ZC G mid p R s m args meth c) (hH : ZH G ac w s H locs cells) (hs : H.size ≤ s.heap.size + cells) {U : State} (hU : U.heap = H) (hW : s.WarmedH U.vm) : zPre G w U := by
  obtain ⟨hP, hS, hK, hz⟩ := hH
  have hb := C.2.2.2.2.2.2.1.2.2.1
  refine ⟨?_, zS.moved hW C.2.2.2.2.2.2.1 (by rw [hU]; exact hS.1) (fun q h1 h2 => by rw [hU]; exact hS.2.1 q h1 h2), ac, by rw [hU]; exact hP, hK.moved hW.alike⟩
  rw [hU]
  have h1 := hS.1
  rcases Nat.eq_zero_or_pos w.1.length with h0 | h0
  · omega
  · have hk : w.1.length - 1 < w.1.length := by omega
    have hlt := (hP _ _ (zwl_at (G := G) (ac := ac) (List.getElem?_eq_getElem hk))).lt
    have hlt' : gb G + (w.1.length - 1) < H.size := hlt
    omega
/-- behind a call -/
theorem zcall {p : Program} {l : Launch} {e : Env} {R : Room} {s : State} {m : MethodId} {args : Array Value} {below : List Frame} {meth : Method} {c : Code} {H : Heap} {locs : List Loc} {cells slots mc ms : Nat} {Qf : State → Prop} {ls : Array Slot} {st0 rest : List Value} {a : Array Value} {Q1 : Option Value → zW → Prop}
    (hr : va_Run p l e R s m args below meth c H locs cells slots mc ms (F0 m pc ls st0) rest (zQ G Q1 a) (zA G)) (hS : va_S (zA G) s.heap H locs)
    (kk : ∀ (r : Option Value) (w' : zW) (ac' : Nat → ClassId) (H1 : Heap) (locs1 : List Loc), (∀ v, r = some v → zrl G v = v) → Q1 r w' → va_P (gD G) vwCl (zwl G ac' w') H1 → zK G ac' w' s → va_S (zA G) s.heap H1 locs1 →
      W p l e R s m args below meth c H1 locs1 (cells + mc) (slots + ms) Qf (F0 m (pc + 3) ls (r.toList ++ rest))) : W p l e R s m args below meth c H locs cells slots Qf (F0 m pc ls st0) := by
  intro T hT X
  obtain ⟨v, st₀, t, T', L, h0, X', hL, e1, e2, ⟨⟨r, w', hv, hrl, hq, ac', hP', hK'⟩, hz, hk⟩, st⟩ := hr T hT X
  cases hv
  rw [h0] at hz hk
  have hal : s.vm.Alike t.vm := by rw [← e2]; exact X'.warmed.alike
  obtain ⟨t2, a1, b1⟩ := kk v w' ac' T'.heap (locs ++ L) hrl hq (by rw [e1]; exact hP') (hK'.moved hal.symm)
    ⟨Nat.le_trans hS.1 (by rw [e1]; exact hz), fun q h1 h2 => by rw [e1, hk q (Nat.lt_of_lt_of_le h1 hS.1) h2]; exact hS.2.1 q h1 h2, fun q hq => by
      rcases List.mem_append.mp hq with h | h
      · exact hS.2.2 q h
      · exact hL q h⟩ T' rfl X'
  exact ⟨t2, st t2 a1, b1⟩
theorem zbig_good {ws : List Cond} (h : ∀ w ∈ ws, w ∈ zbig) : GoodIn zbig ws := fun w hw => ⟨h w hw, good_of_word (List.mem_filter.mp (h w hw)).2⟩
theorem zret_map {r : Option Value} {rest : List Value} (h : ∀ v, r = some v → zrl G v = v) : (r.toList ++ rest).map (zrl G) = r.toList ++ rest.map (zrl G) := by
  cases r with
  | none => rfl
  | some v =>
    show zrl G v :: rest.map (zrl G) = v :: rest.map (zrl G)
    rw [h v rfl]
theorem ZW.after {p : Program} {l : Launch} {e : Env} {R : Room} {s : State} {m : MethodId} {args : Array Value} {below : List Frame} {meth : Method} {c : Code} {H1 : Heap} {locs1 : List Loc} {cells slots c1 s1 : Nat} {ac' : Nat → ClassId} {ls : Array Slot} {Qf : State → Prop} {r : Option Value} {w' : zW} {rest : List Value}
    (kk : ZW G mid pc' lo (r.toList ++ rest) w' kc ks Q) (hrl : ∀ v, r = some v → zrl G v = v) (hw : w'.1.length = w.1.length + c1) (hz : s.heap.size + cells = gb G + w.1.length) (a1 : va_P (gD G) vwCl (zwl G ac' w') H1) (a2 : zK G ac' w' s) (a3 : va_S (zA G) s.heap H1 locs1) (C : ZC G mid p R s m args meth c) (h1 : cells + (c1 + kc) ≤ R.cells) (h2 : slots + (s1 + ks) ≤ R.slots) (hL : zLh G (zL mid) lo ls)
    (hret : ∀ (r : Option Value) (w' : zW) (H' : Heap) (locs' : List Loc) (cells' slots' : Nat) (ac' : Nat → ClassId) (pc' : Nat) (ls' : Array Slot), Q r w' → ZH G ac' w' s H' locs' cells' → cells' ≤ R.cells → slots' ≤ R.slots → zRet mid pc' r → W p l e R s m args below meth c H' locs' cells' slots' Qf (F0 m pc' ls' r.toList)) :
    W p l e R s m args below meth c H1 locs1 (cells + c1) (slots + s1) Qf (F0 m pc' ls (r.toList ++ rest.map (zrl G))) := by
  have key := kk p l e R s m args below meth c H1 locs1 (cells + c1) (slots + s1) ac' ls Qf C ⟨a1, a3, a2, by omega⟩ (by omega) (by omega) hL hret
  rw [zret_map hrl] at key
  exact key
/-- a call of an instance's method -/
theorem ZW.callv {idx t k1 k2 k3 n k5 k6 q cn nn c1 s1 : Nat} {As rest : List Value} {Q1 : Option Value → zW → Prop} (h : zIn mid pc pc' (.invokevirtual idx) 3 [t, k1, k2, k3, n, k5, k6]) (ht : t < 1000) (hcn : cn < 12) (hcl : (zy t).cls = (zcl cn).1) (hM : w.1[q]? = some (cn, nn)) (hq : q < 1000000) (hn : As.length = n) (hr : rest.length ≤ 4) (hlen : (zargs (.ref q :: As)).length ≤ zL t)
    (hk : ZM G t (.ref q :: As) w c1 s1 Q1) (hQ : ∀ r w', Q1 r w' → w'.1.length = w.1.length + c1) (kk : ∀ r w', Q1 r w' → ZW G mid pc' lo (r.toList ++ rest) w' kc ks Q) : ZW G mid pc lo (As.reverse ++ .ref q :: rest) w (c1 + kc) (s1 + ks) Q := by
  obtain ⟨-, rfl⟩ := id h
  have hck := h.ck.2
  have hne : ¬ t = 9999 := by omega
  simp only [zCkI, zCal, List.getD_cons_zero, List.getD_cons_succ, Bool.and_eq_true, Bool.or_eq_true, decide_eq_true_eq, hne, false_or] at hck
  obtain ⟨⟨g1, g2, g3, g4, g5, g6, g7⟩, g8, g9, g10⟩ := hck
  intro p l e R s m args below meth c H locs cells slots ac ls Qf C hH h1 h2 hL hret
  refine W.sz fun hs => ?_
  have hc := zcats (G := G) hr
  have hf := C.2.2.2.2.2.2.2.1
  have hl := C.2.2.2.2.2.2.2.2
  have hT : GoodIn zbig (wsV (zy mid).cls idx (zy t).cls (zy t) (zws t)) := zbig_good fun w hw => by
    unfold wsV zws at hw
    simp only [List.mem_append, List.mem_cons, List.not_mem_nil, or_false] at hw
    rcases hw with (rfl | rfl | rfl | rfl) | rfl | hw
    · exact zHas_mem g8
    · exact zHas_mem g9
    · exact zHas_mem g10
    · exact zHas_mem g2
    · exact zHas_mem g1
    · exact hw
  have he := zwl_at (G := G) (ac := ac) hM
  rw [zce_obj hcn] at he
  rw [List.map_append, List.map_reverse, List.map_cons, zrl_ref G hq]
  refine zcall (va_runV (rest := rest.map (zrl G)) (As := As.map (zrl G)) ⟨C.1, C.2.1, C.2.2.1, C.2.2.2.1, C.2.2.2.2.1⟩ (hk.met hlen l) (cwV n C.2.2.2.2.1 hT rfl rfl rfl ⟨rfl, g3, g4, g5⟩ ⟨by show zf t + 1 ≤ R.frames; omega, by show 8 + (zL t + 11) + zq t ≤ R.locals; omega⟩) ⟨by rw [List.map_cons, zrl_ref G hq]; exact zPre_blind, ?_, fun U hU hW => ⟨by rw [List.map_cons, zrl_ref G hq], zPre_of C hH hs hU hW⟩⟩ rfl (by rw [List.length_map]; exact hn) hL.1 rfl (lv_room hc) h.dec ⟨by omega, by omega⟩) hH.2.1 (fun r w' ac' H1 locs1 hrl hq1 a1 a2 a3 => ?_)
  · rw [hcl]
    exact va_recv hH.2.2.1.1 hH.1 (zcl_at cn hcn) he
  · exact ZW.after (kk r w' hq1) hrl (hQ r w' hq1) hH.2.2.2 a1 a2 a3 C h1 h2 hL hret
/-- a call of a static method -/
theorem ZW.calls {idx t k1 k2 k3 n k5 c1 s1 : Nat} {As rest : List Value} {Q1 : Option Value → zW → Prop} (h : zIn mid pc pc' (.invokestatic idx) 3 [t, k1, k2, k3, n, k5]) (ht : t < 1000) (hn : As.length = n) (hr : rest.length ≤ 4) (hlen : (zargs As).length ≤ zL t)
    (hk : ZM G t As w c1 s1 Q1) (hQ : ∀ r w', Q1 r w' → w'.1.length = w.1.length + c1) (kk : ∀ r w', Q1 r w' → ZW G mid pc' lo (r.toList ++ rest) w' kc ks Q) : ZW G mid pc lo (As.reverse ++ rest) w (c1 + kc) (s1 + ks) Q := by
  obtain ⟨-, rfl⟩ := id h
  have hck := h.ck.2
  simp only [zCkI, zCal, List.getD_cons_zero, List.getD_cons_succ] at hck
  rw [if_neg (by omega), if_neg (by omega), if_neg (by omega), if_neg (by omega)] at hck
  obtain ⟨⟨g1, g2, g3, g4, g5, g6, g7⟩, g8, g9⟩ := by simpa only [Bool.and_eq_true, decide_eq_true_eq] using hck
  intro p l e R s m args below meth c H locs cells slots ac ls Qf C hH h1 h2 hL hret
  refine W.sz fun hs => ?_
  have hc := zcats (G := G) hr
  have hf := C.2.2.2.2.2.2.2.1
  have hl := C.2.2.2.2.2.2.2.2
  have hT : GoodIn zbig (va_wsS (zy mid).cls idx (zy t) (zws t)) := zbig_good fun w hw => by
    unfold va_wsS zws at hw
    simp only [List.mem_append, List.mem_cons, List.not_mem_nil, or_false] at hw
    rcases hw with (rfl | rfl | rfl) | rfl | hw
    · exact zHas_mem g8
    · exact zHas_mem g9
    · exact zHas_mem g2
    · exact zHas_mem g1
    · exact hw
  rw [List.map_append, List.map_reverse]
  exact zcall (va_runS (rest := rest.map (zrl G)) (As := As.map (zrl G)) ⟨C.1, C.2.1, C.2.2.1, C.2.2.2.1, C.2.2.2.2.1⟩ (hk.met hlen l) (va_cwS n C.2.2.2.2.1 hT rfl rfl rfl ⟨g3, g4, g5⟩ ⟨by show zf t + 1 ≤ R.frames; omega, by show 8 + (zL t + 11) + zq t ≤ R.locals; omega⟩) ⟨zPre_blind, fun U hU hW => ⟨rfl, zPre_of C hH hs hU hW⟩⟩ rfl (by rw [List.length_map]; exact hn) hL.1 rfl (lv_room hc) h.dec ⟨by omega, by omega⟩) hH.2.1 (fun r w' ac' H1 locs1 hrl hq1 a1 a2 a3 => ZW.after (kk r w' hq1) hrl (hQ r w' hq1) hH.2.2.2 a1 a2 a3 C h1 h2 hL hret)
end ZCALLS
end
section
/-! WALKS: constructors' calls, text constants, the law's entry -/
section ZTEXT
variable {G : zG} {mid pc pc' : Nat} {lo : List (Option Value)} {st : List Value} {w : zW} {kc ks : Nat} {Q : Option Value → zW → Prop} {a : List Nat}
theorem zNest_mem {y : MethodName} {own : String} {idx h : Nat} (hh : zNest y own idx h = true) : ∃ host, Cond.methodLinkNest own idx y host ∈ lw_tbl := by
  unfold zNest at hh
  split at hh
  · rename_i o i y2 ho e
    simp only [Bool.and_eq_true, decide_eq_true_eq] at hh
    obtain ⟨rfl, rfl, rfl⟩ := hh
    exact ⟨ho, zTab_mem (List.mem_of_getElem? e)⟩
  · cases hh
theorem zws_good {t h1 : Nat} (g1 : zHas h1 (.code (zy t) (zb t) (zL t) (zr t)) = true) : GoodIn zbig (zws t) := zbig_good fun w hw => by
  rcases List.mem_cons.mp hw with rfl | hw
  · exact zHas_mem g1
  · exact hw
/-- a constructor's call -/
theorem ZW.calli {idx t k1 k2 k3 n k5 k6 q c1 s1 : Nat} {As rest : List Value} {Q1 : Option Value → zW → Prop} (h : zIn mid pc pc' (.invokespecial idx) 3 [t, k1, k2, k3, n, k5, k6]) (ht : t < 1000) (hq : q < 1000000) (hn : As.length = n) (hr : rest.length ≤ 4) (hlen : (zargs (.ref q :: As)).length ≤ zL t)
    (hk : ZM G t (.ref q :: As) w c1 s1 Q1) (hQ : ∀ r w', Q1 r w' → w'.1.length = w.1.length + c1) (kk : ∀ r w', Q1 r w' → ZW G mid pc' lo (r.toList ++ rest) w' kc ks Q) : ZW G mid pc lo (As.reverse ++ .ref q :: rest) w (c1 + kc) (s1 + ks) Q := by
  obtain ⟨-, rfl⟩ := id h
  have hck := h.ck.2
  simp only [zCkI, zCal, List.getD_cons_zero, List.getD_cons_succ] at hck
  rw [if_neg (by omega)] at hck
  simp only [Bool.and_eq_true, decide_eq_true_eq] at hck
  obtain ⟨⟨g1, g2, g3, g4, g5, g6, g7⟩, g8, g9, g10, g11⟩ := hck
  intro p l e R s m args below meth c H locs cells slots ac ls Qf C hH h1 h2 hL hret
  refine W.sz fun hs => ?_
  have hc := zcats (G := G) hr
  have hf := C.2.2.2.2.2.2.2.1
  have hl := C.2.2.2.2.2.2.2.2
  have hM := hk.met hlen l
  have hpre : PreS s H (va_Pc ((Value.ref q :: As).map (zrl G)) (zPre G w)) (Value.ref (gb G + q) :: As.map (zrl G)) := ⟨zPre_blind, fun U hU hW => ⟨by rw [List.map_cons, zrl_ref G hq], zPre_of C hH hs hU hW⟩⟩
  rw [List.map_append, List.map_reverse, List.map_cons, zrl_ref G hq]
  by_cases h6 : k6 = 1
  · rw [if_pos h6] at g8
    obtain ⟨host, hmem⟩ := zNest_mem g8
    have hcn := va_cnB (bytes := zb t) (maxL := zL t) (ret := zr t) (rm := { frames := zf t, cells := c1, slots := s1, locals := zq t }) n C.2.2.2.2.1 (zws_good g1) rfl rfl rfl (C.2.2.2.2.2.2.1.2.2.2.2.2.2.2.1 _ _ _ _ hmem) (C.2.2.2.2.1 _ (zHas_mem g2)) ⟨g3, g4, g5⟩ ⟨by show zf t + 1 ≤ R.frames; omega, by show 8 + (zL t + 11) + zq t ≤ R.locals; omega⟩
    rw [g11] at hcn
    exact zcall (va_runIN (rest := rest.map (zrl G)) (As := As.map (zrl G)) ⟨C.1, C.2.1, C.2.2.1, C.2.2.2.1, C.2.2.2.2.1⟩ hM ⟨hcn, g10, C.2.2.2.2.1 _ (zHas_mem g9)⟩ hpre rfl (by rw [List.length_map]; exact hn) hL.1 rfl (lv_room hc) h.dec ⟨by omega, by omega⟩) hH.2.1 (fun r w' ac' H1 locs1 hrl hq1 a1 a2 a3 => ZW.after (kk r w' hq1) hrl (hQ r w' hq1) hH.2.2.2 a1 a2 a3 C h1 h2 hL hret)
  · rw [if_neg h6] at g8
    have g1' : Cond.code (zy t) (zb t) (zL t) none :: zbig = zws t := by unfold zws; rw [g11]
    have hcn := cwI (bytes := zb t) (maxL := zL t) (R := R) (rm := { frames := zf t, cells := c1, slots := s1, locals := zq t }) n C.2.2.2.2.1 (zws_good g1) g1'.symm rfl rfl (C.2.2.2.2.1 _ (zHas_mem g2)) (C.2.2.2.2.1 _ (zHas_mem g8)) (C.2.2.2.2.1 _ (zHas_mem g9)) g10 ⟨g3, g4, g5⟩ ⟨by show zf t + 1 ≤ R.frames; omega, by show 8 + (zL t + 11) + zq t ≤ R.locals; omega⟩
    exact zcall (va_runI (rest := rest.map (zrl G)) (As := As.map (zrl G)) ⟨C.1, C.2.1, C.2.2.1, C.2.2.2.1, C.2.2.2.2.1⟩ hM hcn hpre rfl (by rw [List.length_map]; exact hn) hL.1 rfl (lv_room hc) h.dec ⟨by omega, by omega⟩) hH.2.1 (fun r w' ac' H1 locs1 hrl hq1 a1 a2 a3 => ZW.after (kk r w' hq1) hrl (hQ r w' hq1) hH.2.2.2 a1 a2 a3 C h1 h2 hL hret)
/-! texts: the i-th constant is the reference 1000001 + i, its bytes 1000101 + i -/
theorem zrl_tx (G : zG) {i : Nat} (h : i < 9) : zrl G (.ref (1000001 + i)) = .ref (gK G i) := by
  unfold zrl
  dsimp only
  rw [if_neg (show ¬ 1000001 + i < 1000000 by omega), if_neg (show ¬ 1000001 + i = 1000000 by omega), if_pos (show 1000001 + i < 1000100 by omega), show 1000001 + i - 1000001 = i by omega]
theorem zrl_by (G : zG) {i : Nat} (h : i < 9) : zrl G (.ref (1000101 + i)) = .ref (gV G i) := by
  unfold zrl
  dsimp only
  rw [if_neg (show ¬ 1000101 + i < 1000000 by omega), if_neg (show ¬ 1000101 + i = 1000000 by omega), if_neg (show ¬ 1000101 + i < 1000100 by omega), if_pos (show 1000101 + i < 1000200 by omega), show 1000101 + i - 1000101 = i by omega]
theorem ZW.ldcT {idx k0 : Nat} (i : Nat) (hi : i < 9) (h : zIn mid pc pc' (.ldc idx) 2 [k0]) (hid : idx = zsidx.getD i 0) (hy : (zy mid).cls = "SpoonHates$Reader") (kk : ZW G mid pc' lo (.ref (1000001 + i) :: st) w kc ks Q) : ZW G mid pc lo st w kc ks Q := by
  obtain ⟨-, rfl⟩ := id h
  intro p l e R s m args below meth c H locs cells slots ac ls Qf C hH h1 h2 hL hret
  have key := kk p l e R s m args below meth c H locs cells slots ac ls Qf C hH h1 h2 hL hret
  rw [List.map_cons, zrl_tx G hi] at key
  subst hid
  exact va_ldcS C.1 C.2.1 (by rw [← hy]; exact C.2.2.2.1) (C.2.2.2.2.2.2.1.2.2.2.2.2.2.1 i hi) h.dec key
theorem ZW.getSV {idx k0 i k1 k2 k3 : Nat} (hi : i < 9) (h : zIn mid pc pc' (.getfield idx) 3 [k1, k2, k3]) (hw : zHas k0 (.fieldLink (zy mid).cls idx "java/lang/String" "value" "[B") = true) (kk : ZW G mid pc' lo (.ref (1000101 + i) :: st) w kc ks Q) : ZW G mid pc lo (.ref (1000001 + i) :: st) w kc ks Q := by
  obtain ⟨-, rfl⟩ := id h
  intro p l e R s m args below meth c H locs cells slots ac ls Qf C hH h1 h2 hL hret
  have key := kk p l e R s m args below meth c H locs cells slots ac ls Qf C hH h1 h2 hL hret
  rw [List.map_cons, zrl_by G hi] at key
  rw [List.map_cons, zrl_tx G hi]
  exact vk_getf C.1 C.2.1 (C.2.2.2.2.2.2.1.2.2.2.1.1 i hi).2.2.1 hH.2.1 C.2.2.2.1 (C.2.2.2.2.1 _ (zHas_mem hw)) (fun _ h9 => h9) h.dec key
theorem ZW.getSC {idx k0 i k1 k2 k3 : Nat} (hi : i < 9) (h : zIn mid pc pc' (.getfield idx) 3 [k1, k2, k3]) (hw : zHas k0 (.fieldLink (zy mid).cls idx "java/lang/String" "coder" "B") = true) (kk : ZW G mid pc' lo (.int 0 :: st) w kc ks Q) : ZW G mid pc lo (.ref (1000001 + i) :: st) w kc ks Q := by
  obtain ⟨-, rfl⟩ := id h
  intro p l e R s m args below meth c H locs cells slots ac ls Qf C hH h1 h2 hL hret
  rw [List.map_cons, zrl_tx G hi]
  exact vk_getf C.1 C.2.1 (C.2.2.2.2.2.2.1.2.2.2.1.1 i hi).2.1 hH.2.1 C.2.2.2.1 (C.2.2.2.2.1 _ (zHas_mem hw)) (fun _ h9 => h9) h.dec (kk p l e R s m args below meth c H locs cells slots ac ls Qf C hH h1 h2 hL hret)
theorem ZW.getCS {idx k0 : Nat} (h : zIn mid pc pc' (.getstatic idx) 3 a) (hw : zHas k0 (.fieldLink (zy mid).cls idx "java/lang/String" "COMPACT_STRINGS" "Z") = true) (kk : ZW G mid pc' lo (.int 1 :: st) w kc ks Q) : ZW G mid pc lo st w kc ks Q := by
  obtain ⟨-, rfl⟩ := id h
  intro p l e R s m args below meth c H locs cells slots ac ls Qf C hH h1 h2 hL hret
  exact va_gets C.1 C.2.1 C.2.2.2.2.2.2.1.2.2.2.2.1 hH.2.1 C.2.2.2.1 (C.2.2.2.2.1 _ (zHas_mem hw)) (fun _ h9 => h9) h.dec (kk p l e R s m args below meth c H locs cells slots ac ls Qf C hH h1 h2 hL hret)
theorem ZW.getSI {idx k0 : Nat} (h : zIn mid pc pc' (.getstatic idx) 3 a) (hw : zHas k0 (.fieldLink (zy mid).cls idx "jdk/internal/util/Preconditions" "SIOOBE_FORMATTER" "Ljava/util/function/BiFunction;") = true) (kk : ZW G mid pc' lo (.ref 1000300 :: st) w kc ks Q) : ZW G mid pc lo st w kc ks Q := by
  obtain ⟨-, rfl⟩ := id h
  intro p l e R s m args below meth c H locs cells slots ac ls Qf C hH h1 h2 hL hret
  exact va_gets C.1 C.2.1 C.2.2.2.2.2.2.1.2.2.2.2.2.1 hH.2.1 C.2.2.2.1 (C.2.2.2.2.1 _ (zHas_mem hw)) (fun _ h9 => h9) h.dec (kk p l e R s m args below meth c H locs cells slots ac ls Qf C hH h1 h2 hL hret)
theorem ZW.alenT {i : Nat} (hi : i < 9) (h : zIn mid pc pc' .arraylength 1 a) (kk : ZW G mid pc' lo (.int (nI (zslen.getD i 0)) :: st) w kc ks Q) : ZW G mid pc lo (.ref (1000101 + i) :: st) w kc ks Q := by
  obtain ⟨-, rfl⟩ := id h
  intro p l e R s m args below meth c H locs cells slots ac ls Qf C hH h1 h2 hL hret
  rw [List.map_cons, zrl_by G hi]
  exact va_tlen C.1 C.2.1 (C.2.2.2.2.2.2.1.2.2.2.1.1 i hi).2.2.2 hH.2.1 rfl h.dec (kk p l e R s m args below meth c H locs cells slots ac ls Qf C hH h1 h2 hL hret)
theorem ZW.baldT {i : Nat} {j : Int32} (hi : i < 9) (h : zIn mid pc pc' .baload 1 a) (hj : vp_in j (zslen.getD i 0)) (kk : ZW G mid pc' lo (.int ((zsbyt.getD i []).getD j.toNatClampNeg 0) :: st) w kc ks Q) : ZW G mid pc lo (.int j :: .ref (1000101 + i) :: st) w kc ks Q := by
  obtain ⟨-, rfl⟩ := id h
  intro p l e R s m args below meth c H locs cells slots ac ls Qf C hH h1 h2 hL hret
  rw [List.map_cons, List.map_cons, zrl_by G hi]
  exact va_tb C.1 C.2.1 (C.2.2.2.2.2.2.1.2.2.2.1.1 i hi).2.2.2 hH.2.1 hj rfl h.dec (kk p l e R s m args below meth c H locs cells slots ac ls Qf C hH h1 h2 hL hret)
/-- a call of a text's method -/
theorem ZW.callT {idx t k1 k2 k3 n k5 k6 i c1 s1 : Nat} {As rest : List Value} {Q1 : Option Value → zW → Prop} (hi : i < 9) (h : zIn mid pc pc' (.invokevirtual idx) 3 [t, k1, k2, k3, n, k5, k6]) (ht : t < 1000) (hcl : (zy t).cls = "java/lang/String") (hn : As.length = n) (hr : rest.length ≤ 4) (hlen : (zargs (.ref (1000001 + i) :: As)).length ≤ zL t)
    (hk : ZM G t (.ref (1000001 + i) :: As) w c1 s1 Q1) (hQ : ∀ r w', Q1 r w' → w'.1.length = w.1.length + c1) (kk : ∀ r w', Q1 r w' → ZW G mid pc' lo (r.toList ++ rest) w' kc ks Q) : ZW G mid pc lo (As.reverse ++ .ref (1000001 + i) :: rest) w (c1 + kc) (s1 + ks) Q := by
  obtain ⟨-, rfl⟩ := id h
  have hck := h.ck.2
  have hne : ¬ t = 9999 := by omega
  simp only [zCkI, zCal, List.getD_cons_zero, List.getD_cons_succ, Bool.and_eq_true, Bool.or_eq_true, decide_eq_true_eq, hne, false_or] at hck
  obtain ⟨⟨g1, g2, g3, g4, g5, g6, g7⟩, g8, g9, g10⟩ := hck
  intro p l e R s m args below meth c H locs cells slots ac ls Qf C hH h1 h2 hL hret
  refine W.sz fun hs => ?_
  have hc := zcats (G := G) hr
  have hf := C.2.2.2.2.2.2.2.1
  have hl := C.2.2.2.2.2.2.2.2
  have hT : GoodIn zbig (wsV (zy mid).cls idx (zy t).cls (zy t) (zws t)) := zbig_good fun w hw => by
    unfold wsV zws at hw
    simp only [List.mem_append, List.mem_cons, List.not_mem_nil, or_false] at hw
    rcases hw with (rfl | rfl | rfl | rfl) | rfl | hw
    · exact zHas_mem g8
    · exact zHas_mem g9
    · exact zHas_mem g10
    · exact zHas_mem g2
    · exact zHas_mem g1
    · exact hw
  rw [List.map_append, List.map_reverse, List.map_cons, zrl_tx G hi]
  refine zcall (va_runV (rest := rest.map (zrl G)) (As := As.map (zrl G)) ⟨C.1, C.2.1, C.2.2.1, C.2.2.2.1, C.2.2.2.2.1⟩ (hk.met hlen l) (cwV n C.2.2.2.2.1 hT rfl rfl rfl ⟨rfl, g3, g4, g5⟩ ⟨by show zf t + 1 ≤ R.frames; omega, by show 8 + (zL t + 11) + zq t ≤ R.locals; omega⟩) ⟨by rw [List.map_cons, zrl_tx G hi]; exact zPre_blind, ?_, fun U hU hW => ⟨by rw [List.map_cons, zrl_tx G hi], zPre_of C hH hs hU hW⟩⟩ rfl (by rw [List.length_map]; exact hn) hL.1 rfl (lv_room hc) h.dec ⟨by omega, by omega⟩) hH.2.1 (fun r w' ac' H1 locs1 hrl hq1 a1 a2 a3 => ?_)
  · rw [hcl]
    exact vk_recv C.2.2.2.2.2.2.1.2.2.2.1 hi hH.2.1
  · exact ZW.after (kk r w' hq1) hrl (hQ r w' hq1) hH.2.2.2 a1 a2 a3 C h1 h2 hL hret
end ZTEXT
/-! THE LAW'S ENTRY -/
def R_law : String := "SpoonHatesLaw"
def lw_P (b : Addr) (xs : List Int32) (args : Array Value) (s : State) : Prop := args = #[.ref b] ∧ s.IntsAt b xs ∧ xs.length ≤ 320 ∧ (Jvm.Cond.and given_1 narrow_1).before args s = true
def lw_Q (_ : Array Value) (s : State) (o : Outcome) (t : State) : Prop := o = .returned (some (.int 1)) ∧ Framed s o t [] 600000 7302250
def lw_Z (below : List Frame) (a : Array Value) (s : State) : State → Prop := fun t => ∃ o, t.status = .running ∧ Ended t below o ∧ lw_Q a s o t
/-- the law's own end, with 1 on the stack, nothing written that was there before, its room as the claim has it -/
theorem lw_ret {p : Program} {l : Launch} {e : Env} {s : State} {m : MethodId} {below : List Frame} {meth : Method} {c : Code} {b : Nat} (hx : p.tables.exec = Jvm.exec) (hb : c.code = code) (hr : meth.sig.returnType = ret) (hlocks : meth.locks = false) {pc : Nat} {H : Heap} {ls : Array Slot} (hdg : decode code pc = .ok (.ireturn, 1)) : W p l e room_1 s m #[Value.ref b] below meth c H [] 600000 7302250 (lw_Z below #[Value.ref b] s) (F0 m pc ls [.int 1]) := by
  intro T hT X
  obtain ⟨fs, hret, hrun, hended, hW, hframe⟩ := X.leave (v := some (.int 1)) (hlocks := hlocks) (fun h => by rw [hr] at h; cases h)
  have hmeth' : T.vm.method? m = some meth := X.method'
  refine ⟨T.setFrames fs, ?_, .returned (some (.int 1)), hrun, hended, rfl, ⟨_, rfl⟩, hW, hframe⟩
  jvm_step X.here [X.here.top, hx, hb, hdg, hmeth', hr, ret, narrow_b1]
  (try refine ⟨rfl, ?_⟩); (try refine ⟨rfl, ?_⟩)
  first | (intro acts; rw [hret _ acts rfl rfl rfl]) | rw [hret _ _ rfl rfl rfl]
  exact Steps.refl _
/-- what holds at the law's entry: the machine, the code, the tables' words (any of lw_tbl by 'hts w (by decide +kernel)'), the script of L ints xs at the cell b, what the Statement gives of the start (any of its parts by flat_of_before) -/
def lw_At (p : Program) (s : State) (m : MethodId) (meth : Method) (c : Code) (b L : Nat) (xs : Nat → Int32) : Prop :=
  p.tables.exec = Jvm.exec ∧ c.code = code ∧ meth.sig.returnType = ret ∧ c.maxLocals = 4 ∧ s.vm.findClass R_law = some m.cls ∧ (∀ w ∈ lw_tbl, w.before #[Value.ref b] s = true) ∧ va_X b L xs s s.heap ∧ b < s.heap.size ∧ meth.locks = false ∧ (Jvm.Cond.and given_1 narrow_1).before #[Value.ref b] s = true
theorem zbig_sub {w : Cond} (h : w ∈ zbig) : w ∈ lw_tbl := (List.mem_filter.mp h).1
theorem zlaw_b : zb 229 = code := rfl
theorem zlaw_L : zL 229 = 4 := rfl
theorem zlaw_c : (zy 229).cls = R_law := rfl
theorem zlaw_n : (zy 229).name = "law" := rfl
theorem zlaw_f : zf 229 ≤ 12 ∧ zq 229 ≤ 426 := by decide +kernel
def zF : List Cond := flatC (Jvm.Cond.and given_1 narrow_1)
theorem zF_ex : ∀ i, i < 9 → Cond.exactly (.string "SpoonHates$Reader" (zsidx.getD i 0)) "java/lang/String" ∈ zF := by decide +kernel
theorem zF_co : ∀ i, i < 9 → Cond.eq (.field (.string "SpoonHates$Reader" (zsidx.getD i 0)) "java/lang/String" "coder" "B") (.int 0) ∈ zF := by decide +kernel
theorem zF_ar : ∀ i, i < 9 → Cond.arrayOf (.field (.string "SpoonHates$Reader" (zsidx.getD i 0)) "java/lang/String" "value" "[B") .byte ∈ zF := by decide +kernel
theorem zF_le : ∀ i, i < 9 → Cond.eq (.length (.field (.string "SpoonHates$Reader" (zsidx.getD i 0)) "java/lang/String" "value" "[B")) (.int (Int32.ofNat (zslen.getD i 0))) ∈ zF := by decide +kernel
theorem zF_el : ∀ i, i < 9 → ∀ j, j < zslen.getD i 0 → Cond.eq (.elem (.field (.string "SpoonHates$Reader" (zsidx.getD i 0)) "java/lang/String" "value" "[B") (.int (Int32.ofNat j))) (.int ((zsbyt.getD i []).getD j 0)) ∈ zF := by decide +kernel
theorem zF_ne : ∀ i, i < 9 → ∀ j, j < 9 → i ≠ j → Cond.not (Cond.eq (.string "SpoonHates$Reader" (zsidx.getD i 0)) (.string "SpoonHates$Reader" (zsidx.getD j 0))) ∈ zF ∨ Cond.not (Cond.eq (.string "SpoonHates$Reader" (zsidx.getD j 0)) (.string "SpoonHates$Reader" (zsidx.getD i 0))) ∈ zF := by decide +kernel
theorem zF_cs : Cond.eq (.static "java/lang/String" "COMPACT_STRINGS" "Z") (.int 1) ∈ zF := by decide +kernel
theorem zF_si : Cond.isRef (.static "jdk/internal/util/Preconditions" "SIOOBE_FORMATTER" "Ljava/util/function/BiFunction;") ∈ zF := by decide +kernel
theorem zT_cs : Cond.laysStatic "java/lang/String" "COMPACT_STRINGS" "Z" ∈ lw_tbl ∧ Cond.initialized "java/lang/String" ∈ lw_tbl ∧ Cond.laysStatic "jdk/internal/util/Preconditions" "SIOOBE_FORMATTER" "Ljava/util/function/BiFunction;" ∈ lw_tbl ∧ Cond.initialized "jdk/internal/util/Preconditions" ∈ lw_tbl := by decide +kernel
theorem zT_sr : ∀ i, i < 9 → Cond.stringRef "SpoonHates$Reader" (zsidx.getD i 0) (zstx.getD i "") ∈ lw_tbl := by decide +kernel
def zw0 : zW := ([], fun _ _ => 0, fun _ _ => 0, fun _ _ => none)
set_option maxHeartbeats 4000000 in
/-- the law's body, from its entry, out of a walk over the world -/
theorem zlaw_start {p : Program} {e : Env} {s : State} {m : MethodId} {below : List Frame} {meth : Method} {c : Code} (l : Launch) {b L : Nat} {xs : Nat → Int32} (hL : L ≤ 320) (C0 : lw_At p s m meth c b L xs)
    (hZ : ∀ G : zG, gsL G ≤ 320 → ∃ kc ks, kc ≤ 600000 ∧ ks ≤ 7302250 ∧ ZM G 229 [.ref 1000000] zw0 kc ks (fun r _ => r = some (.int 1))) :
    W p l e room_1 s m #[Value.ref b] below meth c s.heap [] 0 0 (lw_Z below #[Value.ref b] s) (entryFrame m ([Value.ref b] : List Value).toArray 4) := by
  obtain ⟨hx, hb, hr, hml, hown, hts, hX, hbl, hlocks, hgv⟩ := id C0
  have hs : ∀ q ∈ zF, q.before #[Value.ref b] s = true := flat_of_before _ hgv
  have hA : ∀ a : Nat, a < s.heap.size → ¬ (fun q : Nat => s.heap.size ≤ q) a := fun a h => Nat.not_le.mpr h
  have hkn : ∀ ci : Nat, ∃ q : ClassId × (Nat → Nat), ci < 12 → u_Kn s (zcl ci).1 (zcl ci).2.1 (zcl ci).2.2 q.1 q.2 := by
    intro ci
    by_cases h : ci < 12
    · obtain ⟨n, hn⟩ := zcl_inst ci h
      obtain ⟨cC, iS, hk⟩ := u_known hts (fun w hw => zbig_sub (zcl_ws ci h w hw)) (hts _ hn)
      exact ⟨(cC, iS), fun _ => hk⟩
    · exact ⟨(0, fun _ => 0), fun q => absurd q h⟩
  obtain ⟨D, hD⟩ := Classical.axiomOfChoice hkn
  obtain ⟨adK, adV, hvk, hst⟩ := vk_Sof (N := 9) (tm := fun i => .string "SpoonHates$Reader" (zsidx.getD i 0)) (len := zslen) (byt := zsbyt) (A := fun q : Nat => s.heap.size ≤ q) (args := #[Value.ref b]) (s := s)
    (by decide +kernel) (fun i hi => hs _ (zF_ex i hi)) (fun i hi => hs _ (zF_co i hi)) (fun i hi => hs _ (zF_ar i hi)) (fun i hi => hs _ (zF_le i hi)) (fun i hi j hj => hs _ (zF_el i hi j hj))
    (fun i j hi hj hij => (zF_ne i hi j hj hij).imp (fun h => hs _ h) (fun h => hs _ h)) hA
  have hz1 := va_Zof (A := fun q : Nat => s.heap.size ≤ q) (hts _ zT_cs.1) (hts _ zT_cs.2.1) (va_eqi (hs _ zF_cs)) hA
  have hz2 := va_Zqof (A := fun q : Nat => s.heap.size ≤ q) (hts _ zT_cs.2.2.1) (hts _ zT_cs.2.2.2) (hs _ zF_si) hA
  obtain ⟨gvo, hz3⟩ : ∃ o : Option Nat, va_Z "jdk/internal/util/Preconditions" "SIOOBE_FORMATTER" "Ljava/util/function/BiFunction;" (va_rf o) (fun q : Nat => s.heap.size ≤ q) s s.heap := by
    rcases hz2 with h | ⟨t, h⟩
    · exact ⟨none, h⟩
    · exact ⟨some t, h⟩
  obtain ⟨kc, ks, hkc, hks, hk⟩ := hZ ((fun c => (D c).1, fun c => (D c).2), s.heap.size, (b, L, xs), (adK, adV), gvo) hL
  have hK : va_K (fun c => (D c).1, fun c => (D c).2) vwCl [] s := by
    refine ⟨fun ci q hq => ?_, fun k q h => by simp at h⟩
    have hci : ci < 12 := (List.getElem?_eq_some_iff.mp hq).1
    have := hD ci hci
    rw [zcl_at ci hci] at hq
    cases hq
    exact this
  have hl := lv_entry ([.ref b]) (n := 4) (Nat.le_of_ble_eq_true rfl)
  rw [lg_entry_eq]
  generalize (lg_sl ([.ref b]) ++ List.replicate (4 - (lg_sl ([.ref b])).length) Slot.unset).toArray = ls at hl ⊢
  refine hk p l e room_1 s m #[Value.ref b] below meth c s.heap [] 0 0 (fun _ => 0) ls (lw_Z below #[Value.ref b] s) ⟨hx, by rw [zlaw_b]; exact hb, by rw [zlaw_L]; exact hml, by rw [zlaw_c]; exact hown, fun w hw => hts w (zbig_sub hw), fun hn => by rw [zlaw_n] at hn; exact absurd hn (by decide), ⟨hX, hbl, Nat.le_refl _, hvk, hz1, hz3, fun i hi => vk_R.of (hts _ (zT_sr i hi)) (hst i hi), fun a i x h hm => va_Nw.of rfl (hts _ hm), fun C hm => va_AO.of (hts _ hm)⟩, zlaw_f.1, zlaw_f.2⟩
    ⟨fun k q h => by simp [zwl, zw0] at h, va_S.rf, ⟨hK, fun k q h => by simp [zw0] at h⟩, rfl⟩ (by rw [Nat.zero_add]; exact hkc) (by rw [Nat.zero_add]; exact hks) (zLh.ent (av := [.ref 1000000]) hl) ?_
  intro r w' H' locs' cells' slots' ac' pc' ls' hq hH' hc1 hc2 hrt
  subst hq
  refine va_forget (fun q hq => hH'.2.1.2.2 q hq) ?_
  refine W.widen (k := 600000) (n := 7302250) hc1 hc2 ?_
  exact lw_ret hx hb hr hlocks (by have := hrt.2; rw [zlaw_b] at this; exact this)
end
section
theorem zlook : True := trivial
end
