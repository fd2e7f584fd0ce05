section
-- ===== PART A: goes FIRST, ahead of the names: the tables' words, and 'selects' of the private methods out of them =====
/-- a private method of a class that the tables say can be made, by its rows of tables_1 -/
def lw_okq (q : MethodName × Nat) : Prop := (q.1.cls ≠ "java/lang/invoke/MethodHandle" ∧ q.1.cls ≠ "java/lang/invoke/VarHandle") ∧ Cond.instantiable q.1.cls q.2 ∈ tables_1 ∧ Cond.privateMethod q.1 ∈ tables_1 ∧ Cond.instanceMethod q.1 ∈ tables_1
theorem lw_p0 : lw_okq (⟨"QuestionRoad$Chart", "shorten", "(II)V"⟩, 3) := ⟨⟨by decide +kernel, by decide +kernel⟩, List.mem_of_getElem? (i := 88) (by decide +kernel), List.mem_of_getElem? (i := 171) (by decide +kernel), List.mem_of_getElem? (i := 172) (by decide +kernel)⟩
theorem lw_p1 : lw_okq (⟨"QuestionRoad$Chart", "addUp", "()V"⟩, 3) := ⟨⟨by decide +kernel, by decide +kernel⟩, List.mem_of_getElem? (i := 88) (by decide +kernel), List.mem_of_getElem? (i := 178) (by decide +kernel), List.mem_of_getElem? (i := 179) (by decide +kernel)⟩
theorem lw_p2 : lw_okq (⟨"QuestionRoad$Chart", "firstTurn", "(II)I"⟩, 3) := ⟨⟨by decide +kernel, by decide +kernel⟩, List.mem_of_getElem? (i := 88) (by decide +kernel), List.mem_of_getElem? (i := 182) (by decide +kernel), List.mem_of_getElem? (i := 183) (by decide +kernel)⟩
theorem lw_p3 : lw_okq (⟨"QuestionRoad$Run", "begin", "(LQuestionRoad$Setting;)V"⟩, 12) := ⟨⟨by decide +kernel, by decide +kernel⟩, List.mem_of_getElem? (i := 186) (by decide +kernel), List.mem_of_getElem? (i := 269) (by decide +kernel), List.mem_of_getElem? (i := 270) (by decide +kernel)⟩
theorem lw_p4 : lw_okq (⟨"QuestionRoad$Run", "soonest", "()I"⟩, 12) := ⟨⟨by decide +kernel, by decide +kernel⟩, List.mem_of_getElem? (i := 186) (by decide +kernel), List.mem_of_getElem? (i := 277) (by decide +kernel), List.mem_of_getElem? (i := 278) (by decide +kernel)⟩
theorem lw_p5 : lw_okq (⟨"QuestionRoad$Run", "gather", "(I)V"⟩, 12) := ⟨⟨by decide +kernel, by decide +kernel⟩, List.mem_of_getElem? (i := 186) (by decide +kernel), List.mem_of_getElem? (i := 282) (by decide +kernel), List.mem_of_getElem? (i := 283) (by decide +kernel)⟩
theorem lw_p6 : lw_okq (⟨"QuestionRoad$Run", "settle", "(LQuestionRoad$Setting;II)V"⟩, 12) := ⟨⟨by decide +kernel, by decide +kernel⟩, List.mem_of_getElem? (i := 186) (by decide +kernel), List.mem_of_getElem? (i := 286) (by decide +kernel), List.mem_of_getElem? (i := 287) (by decide +kernel)⟩
theorem lw_p7 : lw_okq (⟨"QuestionRoad$Run", "isTold", "(IIZ)Z"⟩, 12) := ⟨⟨by decide +kernel, by decide +kernel⟩, List.mem_of_getElem? (i := 186) (by decide +kernel), List.mem_of_getElem? (i := 302) (by decide +kernel), List.mem_of_getElem? (i := 303) (by decide +kernel)⟩
theorem lw_p8 : lw_okq (⟨"QuestionRoad", "textOf", "(I)LQuestionRoad$Text;"⟩, 10) := ⟨⟨by decide +kernel, by decide +kernel⟩, List.mem_of_getElem? (i := 17) (by decide +kernel), List.mem_of_getElem? (i := 486) (by decide +kernel), List.mem_of_getElem? (i := 487) (by decide +kernel)⟩
theorem lw_p9 : lw_okq (⟨"QuestionRoad$Text", "judge", "()V"⟩, 6) := ⟨⟨by decide +kernel, by decide +kernel⟩, List.mem_of_getElem? (i := 25) (by decide +kernel), List.mem_of_getElem? (i := 498) (by decide +kernel), List.mem_of_getElem? (i := 499) (by decide +kernel)⟩
theorem lw_p10 : lw_okq (⟨"QuestionRoad$Text", "fits", "(II)Z"⟩, 6) := ⟨⟨by decide +kernel, by decide +kernel⟩, List.mem_of_getElem? (i := 25) (by decide +kernel), List.mem_of_getElem? (i := 502) (by decide +kernel), List.mem_of_getElem? (i := 503) (by decide +kernel)⟩
theorem lw_p11 : lw_okq (⟨"QuestionRoad", "textChanged", "(I)V"⟩, 10) := ⟨⟨by decide +kernel, by decide +kernel⟩, List.mem_of_getElem? (i := 17) (by decide +kernel), List.mem_of_getElem? (i := 506) (by decide +kernel), List.mem_of_getElem? (i := 507) (by decide +kernel)⟩
theorem lw_p12 : lw_okq (⟨"QuestionRoad", "isCarter", "(I)Z"⟩, 10) := ⟨⟨by decide +kernel, by decide +kernel⟩, List.mem_of_getElem? (i := 17) (by decide +kernel), List.mem_of_getElem? (i := 540) (by decide +kernel), List.mem_of_getElem? (i := 541) (by decide +kernel)⟩
theorem lw_p13 : lw_okq (⟨"QuestionRoad", "found", "(I)I"⟩, 10) := ⟨⟨by decide +kernel, by decide +kernel⟩, List.mem_of_getElem? (i := 17) (by decide +kernel), List.mem_of_getElem? (i := 568) (by decide +kernel), List.mem_of_getElem? (i := 569) (by decide +kernel)⟩
theorem lw_p14 : lw_okq (⟨"QuestionRoad", "behind", "(III)I"⟩, 10) := ⟨⟨by decide +kernel, by decide +kernel⟩, List.mem_of_getElem? (i := 17) (by decide +kernel), List.mem_of_getElem? (i := 576) (by decide +kernel), List.mem_of_getElem? (i := 577) (by decide +kernel)⟩
theorem lw_p15 : lw_okq (⟨"QuestionRoad$Plans", "begin", "()V"⟩, 7) := ⟨⟨by decide +kernel, by decide +kernel⟩, List.mem_of_getElem? (i := 310) (by decide +kernel), List.mem_of_getElem? (i := 637) (by decide +kernel), List.mem_of_getElem? (i := 638) (by decide +kernel)⟩
def lw_privs_1 : List (MethodName × Nat) := [(⟨"QuestionRoad$Chart", "shorten", "(II)V"⟩, 3), (⟨"QuestionRoad$Chart", "addUp", "()V"⟩, 3), (⟨"QuestionRoad$Chart", "firstTurn", "(II)I"⟩, 3), (⟨"QuestionRoad$Run", "begin", "(LQuestionRoad$Setting;)V"⟩, 12), (⟨"QuestionRoad$Run", "soonest", "()I"⟩, 12), (⟨"QuestionRoad$Run", "gather", "(I)V"⟩, 12), (⟨"QuestionRoad$Run", "settle", "(LQuestionRoad$Setting;II)V"⟩, 12), (⟨"QuestionRoad$Run", "isTold", "(IIZ)Z"⟩, 12), (⟨"QuestionRoad", "textOf", "(I)LQuestionRoad$Text;"⟩, 10), (⟨"QuestionRoad$Text", "judge", "()V"⟩, 6), (⟨"QuestionRoad$Text", "fits", "(II)Z"⟩, 6), (⟨"QuestionRoad", "textChanged", "(I)V"⟩, 10), (⟨"QuestionRoad", "isCarter", "(I)Z"⟩, 10), (⟨"QuestionRoad", "found", "(I)I"⟩, 10), (⟨"QuestionRoad", "behind", "(III)I"⟩, 10), (⟨"QuestionRoad$Plans", "begin", "()V"⟩, 7)]
theorem lw_r1 : ∀ q ∈ lw_privs_1, lw_okq q := List.forall_mem_cons.mpr ⟨lw_p0, List.forall_mem_cons.mpr ⟨lw_p1, List.forall_mem_cons.mpr ⟨lw_p2, List.forall_mem_cons.mpr ⟨lw_p3, List.forall_mem_cons.mpr ⟨lw_p4, List.forall_mem_cons.mpr ⟨lw_p5, List.forall_mem_cons.mpr ⟨lw_p6, List.forall_mem_cons.mpr ⟨lw_p7, List.forall_mem_cons.mpr ⟨lw_p8, List.forall_mem_cons.mpr ⟨lw_p9, List.forall_mem_cons.mpr ⟨lw_p10, List.forall_mem_cons.mpr ⟨lw_p11, List.forall_mem_cons.mpr ⟨lw_p12, List.forall_mem_cons.mpr ⟨lw_p13, List.forall_mem_cons.mpr ⟨lw_p14, List.forall_mem_cons.mpr ⟨lw_p15, fun _ h => absurd h List.not_mem_nil⟩⟩⟩⟩⟩⟩⟩⟩⟩⟩⟩⟩⟩⟩⟩⟩
theorem lw_p16 : lw_okq (⟨"QuestionRoad$Plans", "weigh", "(II)V"⟩, 7) := ⟨⟨by decide +kernel, by decide +kernel⟩, List.mem_of_getElem? (i := 310) (by decide +kernel), List.mem_of_getElem? (i := 645) (by decide +kernel), List.mem_of_getElem? (i := 646) (by decide +kernel)⟩
theorem lw_p17 : lw_okq (⟨"QuestionRoad$Clues", "trialFits", "()Z"⟩, 13) := ⟨⟨by decide +kernel, by decide +kernel⟩, List.mem_of_getElem? (i := 343) (by decide +kernel), List.mem_of_getElem? (i := 698) (by decide +kernel), List.mem_of_getElem? (i := 699) (by decide +kernel)⟩
theorem lw_p18 : lw_okq (⟨"QuestionRoad$Clues", "mostAlike", "(I)I"⟩, 13) := ⟨⟨by decide +kernel, by decide +kernel⟩, List.mem_of_getElem? (i := 343) (by decide +kernel), List.mem_of_getElem? (i := 732) (by decide +kernel), List.mem_of_getElem? (i := 733) (by decide +kernel)⟩
theorem lw_p19 : lw_okq (⟨"QuestionRoad$Clues", "placeOfFitting", "(II)I"⟩, 13) := ⟨⟨by decide +kernel, by decide +kernel⟩, List.mem_of_getElem? (i := 343) (by decide +kernel), List.mem_of_getElem? (i := 736) (by decide +kernel), List.mem_of_getElem? (i := 737) (by decide +kernel)⟩
theorem lw_p20 : lw_okq (⟨"QuestionRoad$Chances", "weightOf", "(II)J"⟩, 7) := ⟨⟨by decide +kernel, by decide +kernel⟩, List.mem_of_getElem? (i := 393) (by decide +kernel), List.mem_of_getElem? (i := 751) (by decide +kernel), List.mem_of_getElem? (i := 752) (by decide +kernel)⟩
theorem lw_p21 : lw_okq (⟨"QuestionRoad$Chances", "addWeight", "(J)V"⟩, 7) := ⟨⟨by decide +kernel, by decide +kernel⟩, List.mem_of_getElem? (i := 393) (by decide +kernel), List.mem_of_getElem? (i := 756) (by decide +kernel), List.mem_of_getElem? (i := 757) (by decide +kernel)⟩
theorem lw_p22 : lw_okq (⟨"QuestionRoad", "itemRefusal", "(III)I"⟩, 10) := ⟨⟨by decide +kernel, by decide +kernel⟩, List.mem_of_getElem? (i := 17) (by decide +kernel), List.mem_of_getElem? (i := 791) (by decide +kernel), List.mem_of_getElem? (i := 792) (by decide +kernel)⟩
theorem lw_p23 : lw_okq (⟨"QuestionRoad", "digestOfTexts", "(J)J"⟩, 10) := ⟨⟨by decide +kernel, by decide +kernel⟩, List.mem_of_getElem? (i := 17) (by decide +kernel), List.mem_of_getElem? (i := 835) (by decide +kernel), List.mem_of_getElem? (i := 836) (by decide +kernel)⟩
theorem lw_p24 : lw_okq (⟨"QuestionRoad", "digestOfHours", "(JI)J"⟩, 10) := ⟨⟨by decide +kernel, by decide +kernel⟩, List.mem_of_getElem? (i := 17) (by decide +kernel), List.mem_of_getElem? (i := 844) (by decide +kernel), List.mem_of_getElem? (i := 845) (by decide +kernel)⟩
theorem lw_p25 : lw_okq (⟨"QuestionRoad", "digestOfHour", "(JII)J"⟩, 10) := ⟨⟨by decide +kernel, by decide +kernel⟩, List.mem_of_getElem? (i := 17) (by decide +kernel), List.mem_of_getElem? (i := 848) (by decide +kernel), List.mem_of_getElem? (i := 849) (by decide +kernel)⟩
theorem lw_p26 : lw_okq (⟨"QuestionRoad", "digestOfTrials", "(JI)J"⟩, 10) := ⟨⟨by decide +kernel, by decide +kernel⟩, List.mem_of_getElem? (i := 17) (by decide +kernel), List.mem_of_getElem? (i := 852) (by decide +kernel), List.mem_of_getElem? (i := 853) (by decide +kernel)⟩
theorem lw_p27 : lw_okq (⟨"QuestionRoad", "digestOfAll", "(J)J"⟩, 10) := ⟨⟨by decide +kernel, by decide +kernel⟩, List.mem_of_getElem? (i := 17) (by decide +kernel), List.mem_of_getElem? (i := 856) (by decide +kernel), List.mem_of_getElem? (i := 857) (by decide +kernel)⟩
theorem lw_p28 : lw_okq (⟨"QuestionRoadModel", "finds", "(I)I"⟩, 32) := ⟨⟨by decide +kernel, by decide +kernel⟩, List.mem_of_getElem? (i := 860) (by decide +kernel), List.mem_of_getElem? (i := 975) (by decide +kernel), List.mem_of_getElem? (i := 976) (by decide +kernel)⟩
theorem lw_p29 : lw_okq (⟨"QuestionRoadModel", "lacks", "(III)I"⟩, 32) := ⟨⟨by decide +kernel, by decide +kernel⟩, List.mem_of_getElem? (i := 860) (by decide +kernel), List.mem_of_getElem? (i := 987) (by decide +kernel), List.mem_of_getElem? (i := 988) (by decide +kernel)⟩
theorem lw_p30 : lw_okq (⟨"QuestionRoadModel", "readsText", "(I)I"⟩, 32) := ⟨⟨by decide +kernel, by decide +kernel⟩, List.mem_of_getElem? (i := 860) (by decide +kernel), List.mem_of_getElem? (i := 1023) (by decide +kernel), List.mem_of_getElem? (i := 1024) (by decide +kernel)⟩
theorem lw_p31 : lw_okq (⟨"QuestionRoadModel", "readsWays", "()I"⟩, 32) := ⟨⟨by decide +kernel, by decide +kernel⟩, List.mem_of_getElem? (i := 860) (by decide +kernel), List.mem_of_getElem? (i := 1027) (by decide +kernel), List.mem_of_getElem? (i := 1028) (by decide +kernel)⟩
def lw_privs_2 : List (MethodName × Nat) := [(⟨"QuestionRoad$Plans", "weigh", "(II)V"⟩, 7), (⟨"QuestionRoad$Clues", "trialFits", "()Z"⟩, 13), (⟨"QuestionRoad$Clues", "mostAlike", "(I)I"⟩, 13), (⟨"QuestionRoad$Clues", "placeOfFitting", "(II)I"⟩, 13), (⟨"QuestionRoad$Chances", "weightOf", "(II)J"⟩, 7), (⟨"QuestionRoad$Chances", "addWeight", "(J)V"⟩, 7), (⟨"QuestionRoad", "itemRefusal", "(III)I"⟩, 10), (⟨"QuestionRoad", "digestOfTexts", "(J)J"⟩, 10), (⟨"QuestionRoad", "digestOfHours", "(JI)J"⟩, 10), (⟨"QuestionRoad", "digestOfHour", "(JII)J"⟩, 10), (⟨"QuestionRoad", "digestOfTrials", "(JI)J"⟩, 10), (⟨"QuestionRoad", "digestOfAll", "(J)J"⟩, 10), (⟨"QuestionRoadModel", "finds", "(I)I"⟩, 32), (⟨"QuestionRoadModel", "lacks", "(III)I"⟩, 32), (⟨"QuestionRoadModel", "readsText", "(I)I"⟩, 32), (⟨"QuestionRoadModel", "readsWays", "()I"⟩, 32)]
theorem lw_r2 : ∀ q ∈ lw_privs_2, lw_okq q := List.forall_mem_cons.mpr ⟨lw_p16, List.forall_mem_cons.mpr ⟨lw_p17, List.forall_mem_cons.mpr ⟨lw_p18, List.forall_mem_cons.mpr ⟨lw_p19, List.forall_mem_cons.mpr ⟨lw_p20, List.forall_mem_cons.mpr ⟨lw_p21, List.forall_mem_cons.mpr ⟨lw_p22, List.forall_mem_cons.mpr ⟨lw_p23, List.forall_mem_cons.mpr ⟨lw_p24, List.forall_mem_cons.mpr ⟨lw_p25, List.forall_mem_cons.mpr ⟨lw_p26, List.forall_mem_cons.mpr ⟨lw_p27, List.forall_mem_cons.mpr ⟨lw_p28, List.forall_mem_cons.mpr ⟨lw_p29, List.forall_mem_cons.mpr ⟨lw_p30, List.forall_mem_cons.mpr ⟨lw_p31, fun _ h => absurd h List.not_mem_nil⟩⟩⟩⟩⟩⟩⟩⟩⟩⟩⟩⟩⟩⟩⟩⟩
theorem lw_p32 : lw_okq (⟨"QuestionRoadModel", "readsCarters", "()I"⟩, 32) := ⟨⟨by decide +kernel, by decide +kernel⟩, List.mem_of_getElem? (i := 860) (by decide +kernel), List.mem_of_getElem? (i := 1043) (by decide +kernel), List.mem_of_getElem? (i := 1044) (by decide +kernel)⟩
theorem lw_p33 : lw_okq (⟨"QuestionRoadModel", "isCarter", "(I)Z"⟩, 32) := ⟨⟨by decide +kernel, by decide +kernel⟩, List.mem_of_getElem? (i := 860) (by decide +kernel), List.mem_of_getElem? (i := 1058) (by decide +kernel), List.mem_of_getElem? (i := 1059) (by decide +kernel)⟩
theorem lw_p34 : lw_okq (⟨"QuestionRoadModel", "find", "()V"⟩, 32) := ⟨⟨by decide +kernel, by decide +kernel⟩, List.mem_of_getElem? (i := 860) (by decide +kernel), List.mem_of_getElem? (i := 1093) (by decide +kernel), List.mem_of_getElem? (i := 1094) (by decide +kernel)⟩
theorem lw_p35 : lw_okq (⟨"QuestionRoadModel", "maps", "()V"⟩, 32) := ⟨⟨by decide +kernel, by decide +kernel⟩, List.mem_of_getElem? (i := 860) (by decide +kernel), List.mem_of_getElem? (i := 1097) (by decide +kernel), List.mem_of_getElem? (i := 1098) (by decide +kernel)⟩
theorem lw_p36 : lw_okq (⟨"QuestionRoadModel", "lives", "()V"⟩, 32) := ⟨⟨by decide +kernel, by decide +kernel⟩, List.mem_of_getElem? (i := 860) (by decide +kernel), List.mem_of_getElem? (i := 1104) (by decide +kernel), List.mem_of_getElem? (i := 1105) (by decide +kernel)⟩
theorem lw_p37 : lw_okq (⟨"QuestionRoadModel", "gathers", "(I)V"⟩, 32) := ⟨⟨by decide +kernel, by decide +kernel⟩, List.mem_of_getElem? (i := 860) (by decide +kernel), List.mem_of_getElem? (i := 1108) (by decide +kernel), List.mem_of_getElem? (i := 1109) (by decide +kernel)⟩
theorem lw_p38 : lw_okq (⟨"QuestionRoadModel", "goesOn", "(II)V"⟩, 32) := ⟨⟨by decide +kernel, by decide +kernel⟩, List.mem_of_getElem? (i := 860) (by decide +kernel), List.mem_of_getElem? (i := 1112) (by decide +kernel), List.mem_of_getElem? (i := 1113) (by decide +kernel)⟩
theorem lw_p39 : lw_okq (⟨"QuestionRoadModel", "stays", "(III)V"⟩, 32) := ⟨⟨by decide +kernel, by decide +kernel⟩, List.mem_of_getElem? (i := 860) (by decide +kernel), List.mem_of_getElem? (i := 1116) (by decide +kernel), List.mem_of_getElem? (i := 1117) (by decide +kernel)⟩
theorem lw_p40 : lw_okq (⟨"QuestionRoadModel", "isTold", "(III)Z"⟩, 32) := ⟨⟨by decide +kernel, by decide +kernel⟩, List.mem_of_getElem? (i := 860) (by decide +kernel), List.mem_of_getElem? (i := 1120) (by decide +kernel), List.mem_of_getElem? (i := 1121) (by decide +kernel)⟩
theorem lw_p41 : lw_okq (⟨"QuestionRoadModel", "isAnswer", "(II)Z"⟩, 32) := ⟨⟨by decide +kernel, by decide +kernel⟩, List.mem_of_getElem? (i := 860) (by decide +kernel), List.mem_of_getElem? (i := 1124) (by decide +kernel), List.mem_of_getElem? (i := 1125) (by decide +kernel)⟩
theorem lw_p42 : lw_okq (⟨"QuestionRoadModel", "next", "(II)I"⟩, 32) := ⟨⟨by decide +kernel, by decide +kernel⟩, List.mem_of_getElem? (i := 860) (by decide +kernel), List.mem_of_getElem? (i := 1131) (by decide +kernel), List.mem_of_getElem? (i := 1132) (by decide +kernel)⟩
theorem lw_p43 : lw_okq (⟨"QuestionRoadModel", "keeps", "(I)V"⟩, 32) := ⟨⟨by decide +kernel, by decide +kernel⟩, List.mem_of_getElem? (i := 860) (by decide +kernel), List.mem_of_getElem? (i := 1135) (by decide +kernel), List.mem_of_getElem? (i := 1136) (by decide +kernel)⟩
theorem lw_p44 : lw_okq (⟨"QuestionRoadModel", "farBy", "(II)I"⟩, 32) := ⟨⟨by decide +kernel, by decide +kernel⟩, List.mem_of_getElem? (i := 860) (by decide +kernel), List.mem_of_getElem? (i := 1147) (by decide +kernel), List.mem_of_getElem? (i := 1148) (by decide +kernel)⟩
theorem lw_p45 : lw_okq (⟨"QuestionRoadModel", "whoBy", "(I)I"⟩, 32) := ⟨⟨by decide +kernel, by decide +kernel⟩, List.mem_of_getElem? (i := 860) (by decide +kernel), List.mem_of_getElem? (i := 1156) (by decide +kernel), List.mem_of_getElem? (i := 1157) (by decide +kernel)⟩
theorem lw_p46 : lw_okq (⟨"QuestionRoadModel", "busiestNow", "()I"⟩, 32) := ⟨⟨by decide +kernel, by decide +kernel⟩, List.mem_of_getElem? (i := 860) (by decide +kernel), List.mem_of_getElem? (i := 1168) (by decide +kernel), List.mem_of_getElem? (i := 1169) (by decide +kernel)⟩
theorem lw_p47 : lw_okq (⟨"QuestionRoadModel", "needsOf", "(I)I"⟩, 32) := ⟨⟨by decide +kernel, by decide +kernel⟩, List.mem_of_getElem? (i := 860) (by decide +kernel), List.mem_of_getElem? (i := 1179) (by decide +kernel), List.mem_of_getElem? (i := 1180) (by decide +kernel)⟩
def lw_privs_3 : List (MethodName × Nat) := [(⟨"QuestionRoadModel", "readsCarters", "()I"⟩, 32), (⟨"QuestionRoadModel", "isCarter", "(I)Z"⟩, 32), (⟨"QuestionRoadModel", "find", "()V"⟩, 32), (⟨"QuestionRoadModel", "maps", "()V"⟩, 32), (⟨"QuestionRoadModel", "lives", "()V"⟩, 32), (⟨"QuestionRoadModel", "gathers", "(I)V"⟩, 32), (⟨"QuestionRoadModel", "goesOn", "(II)V"⟩, 32), (⟨"QuestionRoadModel", "stays", "(III)V"⟩, 32), (⟨"QuestionRoadModel", "isTold", "(III)Z"⟩, 32), (⟨"QuestionRoadModel", "isAnswer", "(II)Z"⟩, 32), (⟨"QuestionRoadModel", "next", "(II)I"⟩, 32), (⟨"QuestionRoadModel", "keeps", "(I)V"⟩, 32), (⟨"QuestionRoadModel", "farBy", "(II)I"⟩, 32), (⟨"QuestionRoadModel", "whoBy", "(I)I"⟩, 32), (⟨"QuestionRoadModel", "busiestNow", "()I"⟩, 32), (⟨"QuestionRoadModel", "needsOf", "(I)I"⟩, 32)]
theorem lw_r3 : ∀ q ∈ lw_privs_3, lw_okq q := List.forall_mem_cons.mpr ⟨lw_p32, List.forall_mem_cons.mpr ⟨lw_p33, List.forall_mem_cons.mpr ⟨lw_p34, List.forall_mem_cons.mpr ⟨lw_p35, List.forall_mem_cons.mpr ⟨lw_p36, List.forall_mem_cons.mpr ⟨lw_p37, List.forall_mem_cons.mpr ⟨lw_p38, List.forall_mem_cons.mpr ⟨lw_p39, List.forall_mem_cons.mpr ⟨lw_p40, List.forall_mem_cons.mpr ⟨lw_p41, List.forall_mem_cons.mpr ⟨lw_p42, List.forall_mem_cons.mpr ⟨lw_p43, List.forall_mem_cons.mpr ⟨lw_p44, List.forall_mem_cons.mpr ⟨lw_p45, List.forall_mem_cons.mpr ⟨lw_p46, List.forall_mem_cons.mpr ⟨lw_p47, fun _ h => absurd h List.not_mem_nil⟩⟩⟩⟩⟩⟩⟩⟩⟩⟩⟩⟩⟩⟩⟩⟩
theorem lw_p48 : lw_okq (⟨"QuestionRoadModel", "lendBy", "(I)I"⟩, 32) := ⟨⟨by decide +kernel, by decide +kernel⟩, List.mem_of_getElem? (i := 860) (by decide +kernel), List.mem_of_getElem? (i := 1187) (by decide +kernel), List.mem_of_getElem? (i := 1188) (by decide +kernel)⟩
theorem lw_p49 : lw_okq (⟨"QuestionRoadModel", "lends", "(II)V"⟩, 32) := ⟨⟨by decide +kernel, by decide +kernel⟩, List.mem_of_getElem? (i := 860) (by decide +kernel), List.mem_of_getElem? (i := 1191) (by decide +kernel), List.mem_of_getElem? (i := 1192) (by decide +kernel)⟩
theorem lw_p50 : lw_okq (⟨"QuestionRoadModel", "comers", "()I"⟩, 32) := ⟨⟨by decide +kernel, by decide +kernel⟩, List.mem_of_getElem? (i := 860) (by decide +kernel), List.mem_of_getElem? (i := 1195) (by decide +kernel), List.mem_of_getElem? (i := 1196) (by decide +kernel)⟩
theorem lw_p51 : lw_okq (⟨"QuestionRoadModel", "delayOf", "(II)I"⟩, 32) := ⟨⟨by decide +kernel, by decide +kernel⟩, List.mem_of_getElem? (i := 860) (by decide +kernel), List.mem_of_getElem? (i := 1206) (by decide +kernel), List.mem_of_getElem? (i := 1207) (by decide +kernel)⟩
theorem lw_p52 : lw_okq (⟨"QuestionRoadModel", "levelBy", "(I)I"⟩, 32) := ⟨⟨by decide +kernel, by decide +kernel⟩, List.mem_of_getElem? (i := 860) (by decide +kernel), List.mem_of_getElem? (i := 1214) (by decide +kernel), List.mem_of_getElem? (i := 1215) (by decide +kernel)⟩
theorem lw_p53 : lw_okq (⟨"QuestionRoadModel", "neverNow", "()I"⟩, 32) := ⟨⟨by decide +kernel, by decide +kernel⟩, List.mem_of_getElem? (i := 860) (by decide +kernel), List.mem_of_getElem? (i := 1231) (by decide +kernel), List.mem_of_getElem? (i := 1232) (by decide +kernel)⟩
theorem lw_p54 : lw_okq (⟨"QuestionRoadModel", "isSeen", "()Z"⟩, 32) := ⟨⟨by decide +kernel, by decide +kernel⟩, List.mem_of_getElem? (i := 860) (by decide +kernel), List.mem_of_getElem? (i := 1235) (by decide +kernel), List.mem_of_getElem? (i := 1236) (by decide +kernel)⟩
theorem lw_p55 : lw_okq (⟨"QuestionRoadModel", "sortOf", "(I)I"⟩, 32) := ⟨⟨by decide +kernel, by decide +kernel⟩, List.mem_of_getElem? (i := 860) (by decide +kernel), List.mem_of_getElem? (i := 1243) (by decide +kernel), List.mem_of_getElem? (i := 1244) (by decide +kernel)⟩
theorem lw_p56 : lw_okq (⟨"QuestionRoadModel", "forceOf", "(II)I"⟩, 32) := ⟨⟨by decide +kernel, by decide +kernel⟩, List.mem_of_getElem? (i := 860) (by decide +kernel), List.mem_of_getElem? (i := 1251) (by decide +kernel), List.mem_of_getElem? (i := 1252) (by decide +kernel)⟩
theorem lw_p57 : lw_okq (⟨"QuestionRoadModel", "askOf", "(I)I"⟩, 32) := ⟨⟨by decide +kernel, by decide +kernel⟩, List.mem_of_getElem? (i := 860) (by decide +kernel), List.mem_of_getElem? (i := 1259) (by decide +kernel), List.mem_of_getElem? (i := 1260) (by decide +kernel)⟩
theorem lw_p58 : lw_okq (⟨"QuestionRoadModel", "alike", "(II)I"⟩, 32) := ⟨⟨by decide +kernel, by decide +kernel⟩, List.mem_of_getElem? (i := 860) (by decide +kernel), List.mem_of_getElem? (i := 1263) (by decide +kernel), List.mem_of_getElem? (i := 1264) (by decide +kernel)⟩
theorem lw_p59 : lw_okq (⟨"QuestionRoadModel", "rumourOf", "(III)J"⟩, 32) := ⟨⟨by decide +kernel, by decide +kernel⟩, List.mem_of_getElem? (i := 860) (by decide +kernel), List.mem_of_getElem? (i := 1272) (by decide +kernel), List.mem_of_getElem? (i := 1273) (by decide +kernel)⟩
theorem lw_p60 : lw_okq (⟨"QuestionRoadModel", "marketOf", "(II)I"⟩, 32) := ⟨⟨by decide +kernel, by decide +kernel⟩, List.mem_of_getElem? (i := 860) (by decide +kernel), List.mem_of_getElem? (i := 1287) (by decide +kernel), List.mem_of_getElem? (i := 1288) (by decide +kernel)⟩
theorem lw_p61 : lw_okq (⟨"QuestionRoadModel", "lot", "(I)I"⟩, 32) := ⟨⟨by decide +kernel, by decide +kernel⟩, List.mem_of_getElem? (i := 860) (by decide +kernel), List.mem_of_getElem? (i := 1291) (by decide +kernel), List.mem_of_getElem? (i := 1292) (by decide +kernel)⟩
theorem lw_p62 : lw_okq (⟨"QuestionRoadModel", "allArrivals", "()I"⟩, 32) := ⟨⟨by decide +kernel, by decide +kernel⟩, List.mem_of_getElem? (i := 860) (by decide +kernel), List.mem_of_getElem? (i := 1304) (by decide +kernel), List.mem_of_getElem? (i := 1305) (by decide +kernel)⟩
theorem lw_p63 : lw_okq (⟨"QuestionRoadModel", "tellsCarter", "(JI)J"⟩, 32) := ⟨⟨by decide +kernel, by decide +kernel⟩, List.mem_of_getElem? (i := 860) (by decide +kernel), List.mem_of_getElem? (i := 1315) (by decide +kernel), List.mem_of_getElem? (i := 1316) (by decide +kernel)⟩
def lw_privs_4 : List (MethodName × Nat) := [(⟨"QuestionRoadModel", "lendBy", "(I)I"⟩, 32), (⟨"QuestionRoadModel", "lends", "(II)V"⟩, 32), (⟨"QuestionRoadModel", "comers", "()I"⟩, 32), (⟨"QuestionRoadModel", "delayOf", "(II)I"⟩, 32), (⟨"QuestionRoadModel", "levelBy", "(I)I"⟩, 32), (⟨"QuestionRoadModel", "neverNow", "()I"⟩, 32), (⟨"QuestionRoadModel", "isSeen", "()Z"⟩, 32), (⟨"QuestionRoadModel", "sortOf", "(I)I"⟩, 32), (⟨"QuestionRoadModel", "forceOf", "(II)I"⟩, 32), (⟨"QuestionRoadModel", "askOf", "(I)I"⟩, 32), (⟨"QuestionRoadModel", "alike", "(II)I"⟩, 32), (⟨"QuestionRoadModel", "rumourOf", "(III)J"⟩, 32), (⟨"QuestionRoadModel", "marketOf", "(II)I"⟩, 32), (⟨"QuestionRoadModel", "lot", "(I)I"⟩, 32), (⟨"QuestionRoadModel", "allArrivals", "()I"⟩, 32), (⟨"QuestionRoadModel", "tellsCarter", "(JI)J"⟩, 32)]
theorem lw_r4 : ∀ q ∈ lw_privs_4, lw_okq q := List.forall_mem_cons.mpr ⟨lw_p48, List.forall_mem_cons.mpr ⟨lw_p49, List.forall_mem_cons.mpr ⟨lw_p50, List.forall_mem_cons.mpr ⟨lw_p51, List.forall_mem_cons.mpr ⟨lw_p52, List.forall_mem_cons.mpr ⟨lw_p53, List.forall_mem_cons.mpr ⟨lw_p54, List.forall_mem_cons.mpr ⟨lw_p55, List.forall_mem_cons.mpr ⟨lw_p56, List.forall_mem_cons.mpr ⟨lw_p57, List.forall_mem_cons.mpr ⟨lw_p58, List.forall_mem_cons.mpr ⟨lw_p59, List.forall_mem_cons.mpr ⟨lw_p60, List.forall_mem_cons.mpr ⟨lw_p61, List.forall_mem_cons.mpr ⟨lw_p62, List.forall_mem_cons.mpr ⟨lw_p63, fun _ h => absurd h List.not_mem_nil⟩⟩⟩⟩⟩⟩⟩⟩⟩⟩⟩⟩⟩⟩⟩⟩
theorem lw_p64 : lw_okq (⟨"QuestionRoadModel", "tellsHour", "(JII)J"⟩, 32) := ⟨⟨by decide +kernel, by decide +kernel⟩, List.mem_of_getElem? (i := 860) (by decide +kernel), List.mem_of_getElem? (i := 1319) (by decide +kernel), List.mem_of_getElem? (i := 1320) (by decide +kernel)⟩
def lw_privs_5 : List (MethodName × Nat) := [(⟨"QuestionRoadModel", "tellsHour", "(JII)J"⟩, 32)]
theorem lw_r5 : ∀ q ∈ lw_privs_5, lw_okq q := List.forall_mem_cons.mpr ⟨lw_p64, fun _ h => absurd h List.not_mem_nil⟩
def lw_privs : List (MethodName × Nat) := lw_privs_1 ++ (lw_privs_2 ++ (lw_privs_3 ++ (lw_privs_4 ++ (lw_privs_5))))
def lw_tbl : List Cond := k2_sels lw_privs ++ tables_1
theorem lw_privs_ok : ∀ q ∈ lw_privs, lw_okq q := by
  show ∀ q ∈ lw_privs_1 ++ (lw_privs_2 ++ (lw_privs_3 ++ (lw_privs_4 ++ (lw_privs_5)))), lw_okq q
  exact List.forall_mem_append.mpr ⟨lw_r1, List.forall_mem_append.mpr ⟨lw_r2, List.forall_mem_append.mpr ⟨lw_r3, List.forall_mem_append.mpr ⟨lw_r4, lw_r5⟩⟩⟩⟩
-- ===== end of PART A; then your names; then what follows =====
/-! THE CLAIM OUT OF ONE WALK OF THE LAW'S BODY. Your part is whole_start (and what it stands on); all else here is the same for every law, but numbers. -/
def R_law : String := "QuestionRoadLaw"
def lw_P (b : Addr) (xs : List Int32) (args : Array Value) (s : State) : Prop := args = #[.ref b] ∧ s.IntsAt b xs ∧ xs.length ≤ 3072 ∧ (Jvm.Cond.and given_1 narrow_1).before args s = true
def lw_Q (_ : Array Value) (s : State) (o : Outcome) (t : State) : Prop := o = .returned (some (.int 1)) ∧ Framed s o t [] 600000 7302250
def lw_Z (below : List Frame) (a : Array Value) (s : State) : State → Prop := fun t => ∃ o, t.status = .running ∧ Ended t below o ∧ lw_Q a s o t
/-- the law's own end, with 1 on the stack, nothing written that was there before, its room as the claim has it -/
theorem lw_ret {p : Program} {l : Launch} {e : Env} {s : State} {m : MethodId} {below : List Frame} {meth : Method} {c : Code} {b : Nat} (hx : p.tables.exec = Jvm.exec) (hb : c.code = code) (hr : meth.sig.returnType = ret) (hlocks : meth.locks = false) {pc : Nat} {H : Heap} {ls : Array Slot} (hdg : decode code pc = .ok (.ireturn, 1)) : W p l e room_1 s m #[Value.ref b] below meth c H [] 600000 7302250 (lw_Z below #[Value.ref b] s) (F0 m pc ls [.int 1]) := by
  intro T hT X
  obtain ⟨fs, hret, hrun, hended, hW, hframe⟩ := X.leave (v := some (.int 1)) (hlocks := hlocks) (fun h => by rw [hr] at h; cases h)
  have hmeth' : T.vm.method? m = some meth := X.method'
  refine ⟨T.setFrames fs, ?_, .returned (some (.int 1)), hrun, hended, rfl, ⟨_, rfl⟩, hW, hframe⟩
  jvm_step X.here [X.here.top, hx, hb, hdg, hmeth', hr, ret, narrow_b1]
  (try refine ⟨rfl, ?_⟩); (try refine ⟨rfl, ?_⟩)
  first | (intro acts; rw [hret _ acts rfl rfl rfl]) | rw [hret _ _ rfl rfl rfl]
  exact Steps.refl _
/-- what holds at the law's entry: the machine, the code, the tables' words (any of lw_tbl by 'hts w (by decide +kernel)'), the script of L ints xs at the cell b, what the Statement gives of the start (any of its parts by flat_of_before) -/
def lw_At (p : Program) (s : State) (m : MethodId) (meth : Method) (c : Code) (b L : Nat) (xs : Nat → Int32) : Prop :=
  p.tables.exec = Jvm.exec ∧ c.code = code ∧ meth.sig.returnType = ret ∧ c.maxLocals = 4 ∧ s.vm.findClass R_law = some m.cls ∧ (∀ w ∈ lw_tbl, w.before #[Value.ref b] s = true) ∧ va_X b L xs s s.heap ∧ b < s.heap.size ∧ meth.locks = false ∧ (Jvm.Cond.and given_1 narrow_1).before #[Value.ref b] s = true
end
section
def RX0 : String := "QuestionRoad$Answers"
def TX0 : u_T := fun k => match k with
  | 0 => ("QuestionRoad$Answers", "hours", "[I", true)
  | 1 => ("QuestionRoad$Answers", "places", "[I", true)
  | _ => ("QuestionRoad$Answers", "number", "I", false)
def tyX0 : Nat → FieldType := fun k => match k with
  | 0 => .array .int
  | 1 => .array .int
  | _ => .int
theorem nmX0 : ∀ a, a < 3 → ∀ b, b < 3 → a ≠ b → (TX0 a).2.1 ≠ (TX0 b).2.1 := by decide +kernel
theorem tyX0_ok : ∀ k, k < 3 → parseFieldDescriptor (TX0 k).2.2.1 = some (tyX0 k) := by decide +kernel
abbrev cX0_init : ByteArray := prog_2_method_1_code
def yX0_init : MethodName := ⟨RX0, "<init>", "()V"⟩
abbrev cX0_push : ByteArray := prog_2_method_2_code
def yX0_push : MethodName := ⟨RX0, "push", "(II)V"⟩
def RX1 : String := "QuestionRoad$Chances"
def TX1 : u_T := fun k => match k with
  | 0 => ("QuestionRoad$Chances", "real", "LQuestionRoad$Setting;", true)
  | 1 => ("QuestionRoad$Chances", "trial", "LQuestionRoad$Setting;", true)
  | 2 => ("QuestionRoad$Chances", "run", "LQuestionRoad$Run;", true)
  | 3 => ("QuestionRoad$Chances", "weights", "[J", true)
  | 4 => ("QuestionRoad$Chances", "all", "J", false)
  | 5 => ("QuestionRoad$Chances", "above", "J", false)
  | _ => ("QuestionRoad$Chances", "below", "J", false)
def tyX1 : Nat → FieldType := fun k => match k with
  | 0 => .object "QuestionRoad$Setting"
  | 1 => .object "QuestionRoad$Setting"
  | 2 => .object "QuestionRoad$Run"
  | 3 => .array .long
  | 4 => .long
  | 5 => .long
  | _ => .long
theorem nmX1 : ∀ a, a < 7 → ∀ b, b < 7 → a ≠ b → (TX1 a).2.1 ≠ (TX1 b).2.1 := by decide +kernel
theorem tyX1_ok : ∀ k, k < 7 → parseFieldDescriptor (TX1 k).2.2.1 = some (tyX1 k) := by decide +kernel
abbrev cX1_init : ByteArray := prog_3_method_1_code
def yX1_init : MethodName := ⟨RX1, "<init>", "(LQuestionRoad$Setting;LQuestionRoad$Setting;LQuestionRoad$Run;)V"⟩
abbrev cX1_weigh : ByteArray := prog_3_method_2_code
def yX1_weigh : MethodName := ⟨RX1, "weigh", "(I)V"⟩
abbrev cX1_weightOf : ByteArray := prog_3_method_3_code
def yX1_weightOf : MethodName := ⟨RX1, "weightOf", "(II)J"⟩
abbrev cX1_addWeight : ByteArray := prog_3_method_4_code
def yX1_addWeight : MethodName := ⟨RX1, "addWeight", "(J)V"⟩
abbrev cX1_reduce : ByteArray := prog_3_method_5_code
def yX1_reduce : MethodName := ⟨RX1, "reduce", "(I)V"⟩
abbrev cX1_drawn : ByteArray := prog_3_method_6_code
def yX1_drawn : MethodName := ⟨RX1, "drawn", "(II)I"⟩
def RX2 : String := "QuestionRoad$Chart"
def TX2 : u_T := fun k => match k with
  | 0 => ("QuestionRoad$Chart", "steps", "[I", true)
  | 1 => ("QuestionRoad$Chart", "sums", "[I", true)
  | _ => ("QuestionRoad$Chart", "turns", "[I", true)
def tyX2 : Nat → FieldType := fun k => match k with
  | 0 => .array .int
  | 1 => .array .int
  | _ => .array .int
theorem nmX2 : ∀ a, a < 3 → ∀ b, b < 3 → a ≠ b → (TX2 a).2.1 ≠ (TX2 b).2.1 := by decide +kernel
theorem tyX2_ok : ∀ k, k < 3 → parseFieldDescriptor (TX2 k).2.2.1 = some (tyX2 k) := by decide +kernel
abbrev cX2_init : ByteArray := prog_4_method_1_code
def yX2_init : MethodName := ⟨RX2, "<init>", "()V"⟩
abbrev cX2_fill : ByteArray := prog_4_method_2_code
def yX2_fill : MethodName := ⟨RX2, "fill", "(LQuestionRoad$Text;I)V"⟩
abbrev cX2_shorten : ByteArray := prog_4_method_3_code
def yX2_shorten : MethodName := ⟨RX2, "shorten", "(II)V"⟩
abbrev cX2_addUp : ByteArray := prog_4_method_4_code
def yX2_addUp : MethodName := ⟨RX2, "addUp", "()V"⟩
abbrev cX2_firstTurn : ByteArray := prog_4_method_5_code
def yX2_firstTurn : MethodName := ⟨RX2, "firstTurn", "(II)I"⟩
abbrev cX2_step : ByteArray := prog_4_method_6_code
def yX2_step : MethodName := ⟨RX2, "step", "(II)I"⟩
abbrev cX2_distance : ByteArray := prog_4_method_7_code
def yX2_distance : MethodName := ⟨RX2, "distance", "(II)I"⟩
abbrev cX2_turn : ByteArray := prog_4_method_8_code
def yX2_turn : MethodName := ⟨RX2, "turn", "(II)I"⟩
def RX3 : String := "QuestionRoad$Clues"
def TX3 : u_T := fun k => match k with
  | 0 => ("QuestionRoad$Clues", "real", "LQuestionRoad$Setting;", true)
  | 1 => ("QuestionRoad$Clues", "trial", "LQuestionRoad$Setting;", true)
  | 2 => ("QuestionRoad$Clues", "run", "LQuestionRoad$Run;", true)
  | 3 => ("QuestionRoad$Clues", "hours", "[I", true)
  | 4 => ("QuestionRoad$Clues", "who", "[I", true)
  | 5 => ("QuestionRoad$Clues", "places", "[I", true)
  | 6 => ("QuestionRoad$Clues", "endPlaces", "[I", true)
  | 7 => ("QuestionRoad$Clues", "endHours", "[I", true)
  | 8 => ("QuestionRoad$Clues", "fitting", "I", false)
  | 9 => ("QuestionRoad$Clues", "number", "I", false)
  | 10 => ("QuestionRoad$Clues", "many", "I", false)
  | 11 => ("QuestionRoad$Clues", "least", "I", false)
  | _ => ("QuestionRoad$Clues", "greatest", "I", false)
def tyX3 : Nat → FieldType := fun k => match k with
  | 0 => .object "QuestionRoad$Setting"
  | 1 => .object "QuestionRoad$Setting"
  | 2 => .object "QuestionRoad$Run"
  | 3 => .array .int
  | 4 => .array .int
  | 5 => .array .int
  | 6 => .array .int
  | 7 => .array .int
  | 8 => .int
  | 9 => .int
  | 10 => .int
  | 11 => .int
  | _ => .int
theorem nmX3 : ∀ a, a < 13 → ∀ b, b < 13 → a ≠ b → (TX3 a).2.1 ≠ (TX3 b).2.1 := by decide +kernel
theorem tyX3_ok : ∀ k, k < 13 → parseFieldDescriptor (TX3 k).2.2.1 = some (tyX3 k) := by decide +kernel
abbrev cX3_init : ByteArray := prog_5_method_1_code
def yX3_init : MethodName := ⟨RX3, "<init>", "(LQuestionRoad$Setting;LQuestionRoad$Setting;LQuestionRoad$Run;)V"⟩
abbrev cX3_push : ByteArray := prog_5_method_2_code
def yX3_push : MethodName := ⟨RX3, "push", "(III)V"⟩
abbrev cX3_trialFits : ByteArray := prog_5_method_3_code
def yX3_trialFits : MethodName := ⟨RX3, "trialFits", "()Z"⟩
abbrev cX3_answersThatNeverWere : ByteArray := prog_5_method_4_code
def yX3_answersThatNeverWere : MethodName := ⟨RX3, "answersThatNeverWere", "()I"⟩
abbrev cX3_sortsOf : ByteArray := prog_5_method_5_code
def yX3_sortsOf : MethodName := ⟨RX3, "sortsOf", "(I)I"⟩
abbrev cX3_strengthsOf : ByteArray := prog_5_method_6_code
def yX3_strengthsOf : MethodName := ⟨RX3, "strengthsOf", "(I)V"⟩
abbrev cX3_hourToLook : ByteArray := prog_5_method_7_code
def yX3_hourToLook : MethodName := ⟨RX3, "hourToLook", "()I"⟩
abbrev cX3_mostAlike : ByteArray := prog_5_method_8_code
def yX3_mostAlike : MethodName := ⟨RX3, "mostAlike", "(I)I"⟩
abbrev cX3_placeOfFitting : ByteArray := prog_5_method_9_code
def yX3_placeOfFitting : MethodName := ⟨RX3, "placeOfFitting", "(II)I"⟩
def RX4 : String := "QuestionRoad$Diary"
def TX4 : u_T := fun k => match k with
  | 0 => ("QuestionRoad$Diary", "lengths", "[I", true)
  | 1 => ("QuestionRoad$Diary", "hours", "[I", true)
  | 2 => ("QuestionRoad$Diary", "places", "[I", true)
  | 3 => ("QuestionRoad$Diary", "lefts", "[I", true)
  | _ => ("QuestionRoad$Diary", "whithers", "[I", true)
def tyX4 : Nat → FieldType := fun k => match k with
  | 0 => .array .int
  | 1 => .array .int
  | 2 => .array .int
  | 3 => .array .int
  | _ => .array .int
theorem nmX4 : ∀ a, a < 5 → ∀ b, b < 5 → a ≠ b → (TX4 a).2.1 ≠ (TX4 b).2.1 := by decide +kernel
theorem tyX4_ok : ∀ k, k < 5 → parseFieldDescriptor (TX4 k).2.2.1 = some (tyX4 k) := by decide +kernel
abbrev cX4_init : ByteArray := prog_6_method_1_code
def yX4_init : MethodName := ⟨RX4, "<init>", "()V"⟩
abbrev cX4_clear : ByteArray := prog_6_method_2_code
def yX4_clear : MethodName := ⟨RX4, "clear", "(I)V"⟩
abbrev cX4_note : ByteArray := prog_6_method_3_code
def yX4_note : MethodName := ⟨RX4, "note", "(IIIII)V"⟩
abbrev cX4_lastStep : ByteArray := prog_6_method_4_code
def yX4_lastStep : MethodName := ⟨RX4, "lastStep", "(II)I"⟩
def RX5 : String := "QuestionRoad$Plans"
def TX5 : u_T := fun k => match k with
  | 0 => ("QuestionRoad$Plans", "real", "LQuestionRoad$Setting;", true)
  | 1 => ("QuestionRoad$Plans", "trial", "LQuestionRoad$Setting;", true)
  | 2 => ("QuestionRoad$Plans", "run", "LQuestionRoad$Run;", true)
  | 3 => ("QuestionRoad$Plans", "flatChart", "LQuestionRoad$Chart;", true)
  | 4 => ("QuestionRoad$Plans", "best", "I", false)
  | 5 => ("QuestionRoad$Plans", "partner", "I", false)
  | _ => ("QuestionRoad$Plans", "most", "I", false)
def tyX5 : Nat → FieldType := fun k => match k with
  | 0 => .object "QuestionRoad$Setting"
  | 1 => .object "QuestionRoad$Setting"
  | 2 => .object "QuestionRoad$Run"
  | 3 => .object "QuestionRoad$Chart"
  | 4 => .int
  | 5 => .int
  | _ => .int
theorem nmX5 : ∀ a, a < 7 → ∀ b, b < 7 → a ≠ b → (TX5 a).2.1 ≠ (TX5 b).2.1 := by decide +kernel
theorem tyX5_ok : ∀ k, k < 7 → parseFieldDescriptor (TX5 k).2.2.1 = some (tyX5 k) := by decide +kernel
abbrev cX5_init : ByteArray := prog_7_method_1_code
def yX5_init : MethodName := ⟨RX5, "<init>", "(LQuestionRoad$Setting;LQuestionRoad$Setting;LQuestionRoad$Run;)V"⟩
abbrev cX5_leastStrength : ByteArray := prog_7_method_2_code
def yX5_leastStrength : MethodName := ⟨RX5, "leastStrength", "(I)I"⟩
abbrev cX5_swapQuestions : ByteArray := prog_7_method_3_code
def yX5_swapQuestions : MethodName := ⟨RX5, "swapQuestions", "()V"⟩
abbrev cX5_postpone : ByteArray := prog_7_method_4_code
def yX5_postpone : MethodName := ⟨RX5, "postpone", "(I)V"⟩
abbrev cX5_flatten : ByteArray := prog_7_method_5_code
def yX5_flatten : MethodName := ⟨RX5, "flatten", "(LQuestionRoad$Text;)V"⟩
abbrev cX5_begin : ByteArray := prog_7_method_6_code
def yX5_begin : MethodName := ⟨RX5, "begin", "()V"⟩
abbrev cX5_weigh : ByteArray := prog_7_method_7_code
def yX5_weigh : MethodName := ⟨RX5, "weigh", "(II)V"⟩
def RX6 : String := "QuestionRoad$Run"
def TX6 : u_T := fun k => match k with
  | 0 => ("QuestionRoad$Run", "number", "I", false)
  | 1 => ("QuestionRoad$Run", "arrivals", "[I", true)
  | 2 => ("QuestionRoad$Run", "lefts", "[I", true)
  | 3 => ("QuestionRoad$Run", "present", "[I", true)
  | 4 => ("QuestionRoad$Run", "visits", "[I", true)
  | 5 => ("QuestionRoad$Run", "places", "[I", true)
  | 6 => ("QuestionRoad$Run", "states", "[I", true)
  | 7 => ("QuestionRoad$Run", "ended", "[I", true)
  | 8 => ("QuestionRoad$Run", "enough", "[I", true)
  | 9 => ("QuestionRoad$Run", "diary", "LQuestionRoad$Diary;", true)
  | 10 => ("QuestionRoad$Run", "meetingHour", "I", false)
  | _ => ("QuestionRoad$Run", "meetingPlace", "I", false)
def tyX6 : Nat → FieldType := fun k => match k with
  | 0 => .int
  | 1 => .array .int
  | 2 => .array .int
  | 3 => .array .int
  | 4 => .array .int
  | 5 => .array .int
  | 6 => .array .int
  | 7 => .array .int
  | 8 => .array .int
  | 9 => .object "QuestionRoad$Diary"
  | 10 => .int
  | _ => .int
theorem nmX6 : ∀ a, a < 12 → ∀ b, b < 12 → a ≠ b → (TX6 a).2.1 ≠ (TX6 b).2.1 := by decide +kernel
theorem tyX6_ok : ∀ k, k < 12 → parseFieldDescriptor (TX6 k).2.2.1 = some (tyX6 k) := by decide +kernel
abbrev cX6_init : ByteArray := prog_8_method_1_code
def yX6_init : MethodName := ⟨RX6, "<init>", "()V"⟩
abbrev cX6_play : ByteArray := prog_8_method_2_code
def yX6_play : MethodName := ⟨RX6, "play", "(LQuestionRoad$Setting;)V"⟩
abbrev cX6_begin : ByteArray := prog_8_method_3_code
def yX6_begin : MethodName := ⟨RX6, "begin", "(LQuestionRoad$Setting;)V"⟩
abbrev cX6_soonest : ByteArray := prog_8_method_4_code
def yX6_soonest : MethodName := ⟨RX6, "soonest", "()I"⟩
abbrev cX6_gather : ByteArray := prog_8_method_5_code
def yX6_gather : MethodName := ⟨RX6, "gather", "(I)V"⟩
abbrev cX6_settle : ByteArray := prog_8_method_6_code
def yX6_settle : MethodName := ⟨RX6, "settle", "(LQuestionRoad$Setting;II)V"⟩
abbrev cX6_isTold : ByteArray := prog_8_method_7_code
def yX6_isTold : MethodName := ⟨RX6, "isTold", "(IIZ)Z"⟩
abbrev cX6_stayBehind : ByteArray := prog_8_method_8_code
def yX6_stayBehind : MethodName := ⟨RX6, "stayBehind", "(II)I"⟩
abbrev cX6_whoIs : ByteArray := prog_8_method_9_code
def yX6_whoIs : MethodName := ⟨RX6, "whoIs", "(I)I"⟩
abbrev cX6_howMany : ByteArray := prog_8_method_10_code
def yX6_howMany : MethodName := ⟨RX6, "howMany", "(I)I"⟩
abbrev cX6_allArrivals : ByteArray := prog_8_method_11_code
def yX6_allArrivals : MethodName := ⟨RX6, "allArrivals", "()I"⟩
abbrev cX6_mostArrivals : ByteArray := prog_8_method_12_code
def yX6_mostArrivals : MethodName := ⟨RX6, "mostArrivals", "()I"⟩
def RX7 : String := "QuestionRoad$Setting"
def TX7 : u_T := fun k => match k with
  | 0 => ("QuestionRoad$Setting", "starts", "[I", true)
  | 1 => ("QuestionRoad$Setting", "goals", "[I", true)
  | 2 => ("QuestionRoad$Setting", "sorts", "[I", true)
  | 3 => ("QuestionRoad$Setting", "strengths", "[I", true)
  | 4 => ("QuestionRoad$Setting", "loads", "[I", true)
  | 5 => ("QuestionRoad$Setting", "lates", "[I", true)
  | 6 => ("QuestionRoad$Setting", "answers", "LQuestionRoad$Answers;", true)
  | 7 => ("QuestionRoad$Setting", "chart", "LQuestionRoad$Chart;", false)
  | 8 => ("QuestionRoad$Setting", "number", "I", false)
  | _ => ("QuestionRoad$Setting", "withoutAnswers", "I", false)
def tyX7 : Nat → FieldType := fun k => match k with
  | 0 => .array .int
  | 1 => .array .int
  | 2 => .array .int
  | 3 => .array .int
  | 4 => .array .int
  | 5 => .array .int
  | 6 => .object "QuestionRoad$Answers"
  | 7 => .object "QuestionRoad$Chart"
  | 8 => .int
  | _ => .int
theorem nmX7 : ∀ a, a < 10 → ∀ b, b < 10 → a ≠ b → (TX7 a).2.1 ≠ (TX7 b).2.1 := by decide +kernel
theorem tyX7_ok : ∀ k, k < 10 → parseFieldDescriptor (TX7 k).2.2.1 = some (tyX7 k) := by decide +kernel
abbrev cX7_init : ByteArray := prog_9_method_1_code
def yX7_init : MethodName := ⟨RX7, "<init>", "(LQuestionRoad$Answers;LQuestionRoad$Chart;)V"⟩
abbrev cX7_take : ByteArray := prog_9_method_2_code
def yX7_take : MethodName := ⟨RX7, "take", "(LQuestionRoad$Text;)V"⟩
abbrev cX7_part : ByteArray := prog_9_method_3_code
def yX7_part : MethodName := ⟨RX7, "part", "(II)I"⟩
abbrev cX7_become : ByteArray := prog_9_method_4_code
def yX7_become : MethodName := ⟨RX7, "become", "(LQuestionRoad$Setting;)V"⟩
abbrev cX7_tells : ByteArray := prog_9_method_5_code
def yX7_tells : MethodName := ⟨RX7, "tells", "(II)Z"⟩
abbrev cX7_swapQuestions : ByteArray := prog_9_method_6_code
def yX7_swapQuestions : MethodName := ⟨RX7, "swapQuestions", "(II)V"⟩
def RX8 : String := "QuestionRoad$Sheet"
def TX8 : u_T := fun k => match k with
  | 0 => ("QuestionRoad$Sheet", "items", "[I", true)
  | 1 => ("QuestionRoad$Sheet", "form", "I", false)
  | 2 => ("QuestionRoad$Sheet", "length", "I", false)
  | _ => ("QuestionRoad$Sheet", "lost", "Z", false)
def tyX8 : Nat → FieldType := fun k => match k with
  | 0 => .array .int
  | 1 => .int
  | 2 => .int
  | _ => .boolean
theorem nmX8 : ∀ a, a < 4 → ∀ b, b < 4 → a ≠ b → (TX8 a).2.1 ≠ (TX8 b).2.1 := by decide +kernel
theorem tyX8_ok : ∀ k, k < 4 → parseFieldDescriptor (TX8 k).2.2.1 = some (tyX8 k) := by decide +kernel
abbrev cX8_init : ByteArray := prog_10_method_1_code
def yX8_init : MethodName := ⟨RX8, "<init>", "()V"⟩
abbrev cX8_renew : ByteArray := prog_10_method_2_code
def yX8_renew : MethodName := ⟨RX8, "renew", "(II)V"⟩
abbrev cX8_put : ByteArray := prog_10_method_3_code
def yX8_put : MethodName := ⟨RX8, "put", "(II)V"⟩
abbrev cX8_has : ByteArray := prog_10_method_4_code
def yX8_has : MethodName := ⟨RX8, "has", "(II)Z"⟩
def RX9 : String := "QuestionRoad$Text"
def TX9 : u_T := fun k => match k with
  | 0 => ("QuestionRoad$Text", "pattern", "[I", true)
  | 1 => ("QuestionRoad$Text", "most", "I", true)
  | 2 => ("QuestionRoad$Text", "bytes", "[I", true)
  | 3 => ("QuestionRoad$Text", "length", "I", false)
  | 4 => ("QuestionRoad$Text", "flaw", "I", false)
  | _ => ("QuestionRoad$Text", "items", "I", false)
def tyX9 : Nat → FieldType := fun k => match k with
  | 0 => .array .int
  | 1 => .int
  | 2 => .array .int
  | 3 => .int
  | 4 => .int
  | _ => .int
theorem nmX9 : ∀ a, a < 6 → ∀ b, b < 6 → a ≠ b → (TX9 a).2.1 ≠ (TX9 b).2.1 := by decide +kernel
theorem tyX9_ok : ∀ k, k < 6 → parseFieldDescriptor (TX9 k).2.2.1 = some (tyX9 k) := by decide +kernel
abbrev cX9_init : ByteArray := prog_11_method_1_code
def yX9_init : MethodName := ⟨RX9, "<init>", "([II)V"⟩
abbrev cX9_isFull : ByteArray := prog_11_method_2_code
def yX9_isFull : MethodName := ⟨RX9, "isFull", "()Z"⟩
abbrev cX9_push : ByteArray := prog_11_method_3_code
def yX9_push : MethodName := ⟨RX9, "push", "(I)V"⟩
abbrev cX9_cutTo : ByteArray := prog_11_method_4_code
def yX9_cutTo : MethodName := ⟨RX9, "cutTo", "(I)V"⟩
abbrev cX9_judge : ByteArray := prog_11_method_5_code
def yX9_judge : MethodName := ⟨RX9, "judge", "()V"⟩
abbrev cX9_fits : ByteArray := prog_11_method_6_code
def yX9_fits : MethodName := ⟨RX9, "fits", "(II)Z"⟩
abbrev cX9_number : ByteArray := prog_11_method_7_code
def yX9_number : MethodName := ⟨RX9, "number", "(II)I"⟩
def RX10 : String := "QuestionRoad"
def TX10 : u_T := fun k => match k with
  | 0 => ("QuestionRoad", "ways", "LQuestionRoad$Text;", true)
  | 1 => ("QuestionRoad", "carters", "LQuestionRoad$Text;", true)
  | 2 => ("QuestionRoad", "answers", "LQuestionRoad$Answers;", true)
  | 3 => ("QuestionRoad", "setting", "LQuestionRoad$Setting;", true)
  | 4 => ("QuestionRoad", "run", "LQuestionRoad$Run;", true)
  | 5 => ("QuestionRoad", "plans", "LQuestionRoad$Plans;", true)
  | 6 => ("QuestionRoad", "clues", "LQuestionRoad$Clues;", true)
  | 7 => ("QuestionRoad", "chances", "LQuestionRoad$Chances;", true)
  | 8 => ("QuestionRoad", "sheets", "[LQuestionRoad$Sheet;", true)
  | _ => ("QuestionRoad", "finding", "I", false)
def tyX10 : Nat → FieldType := fun k => match k with
  | 0 => .object "QuestionRoad$Text"
  | 1 => .object "QuestionRoad$Text"
  | 2 => .object "QuestionRoad$Answers"
  | 3 => .object "QuestionRoad$Setting"
  | 4 => .object "QuestionRoad$Run"
  | 5 => .object "QuestionRoad$Plans"
  | 6 => .object "QuestionRoad$Clues"
  | 7 => .object "QuestionRoad$Chances"
  | 8 => .array (.object "QuestionRoad$Sheet")
  | _ => .int
theorem nmX10 : ∀ a, a < 10 → ∀ b, b < 10 → a ≠ b → (TX10 a).2.1 ≠ (TX10 b).2.1 := by decide +kernel
theorem tyX10_ok : ∀ k, k < 10 → parseFieldDescriptor (TX10 k).2.2.1 = some (tyX10 k) := by decide +kernel
abbrev cX10_init : ByteArray := prog_1_method_1_code
def yX10_init : MethodName := ⟨RX10, "<init>", "()V"⟩
abbrev cX10_type : ByteArray := prog_1_method_2_code
def yX10_type : MethodName := ⟨RX10, "type", "(II)I"⟩
abbrev cX10_wipe : ByteArray := prog_1_method_3_code
def yX10_wipe : MethodName := ⟨RX10, "wipe", "(I)I"⟩
abbrev cX10_undo : ByteArray := prog_1_method_4_code
def yX10_undo : MethodName := ⟨RX10, "undo", "(I)I"⟩
abbrev cX10_fault : ByteArray := prog_1_method_5_code
def yX10_fault : MethodName := ⟨RX10, "fault", "(I)I"⟩
abbrev cX10_way : ByteArray := prog_1_method_6_code
def yX10_way : MethodName := ⟨RX10, "way", "(II)I"⟩
abbrev cX10_carter : ByteArray := prog_1_method_7_code
def yX10_carter : MethodName := ⟨RX10, "carter", "(II)I"⟩
abbrev cX10_late : ByteArray := prog_1_method_8_code
def yX10_late : MethodName := ⟨RX10, "late", "(II)I"⟩
abbrev cX10_answer : ByteArray := prog_1_method_9_code
def yX10_answer : MethodName := ⟨RX10, "answer", "(II)I"⟩
abbrev cX10_back : ByteArray := prog_1_method_10_code
def yX10_back : MethodName := ⟨RX10, "back", "()I"⟩
abbrev cX10_read : ByteArray := prog_1_method_11_code
def yX10_read : MethodName := ⟨RX10, "read", "(I)I"⟩
abbrev cX10_at : ByteArray := prog_1_method_12_code
def yX10_at : MethodName := ⟨RX10, "at", "(III)I"⟩
abbrev cX10_ends : ByteArray := prog_1_method_13_code
def yX10_ends : MethodName := ⟨RX10, "ends", "(I)I"⟩
abbrev cX10_far : ByteArray := prog_1_method_14_code
def yX10_far : MethodName := ⟨RX10, "far", "(II)I"⟩
abbrev cX10_who : ByteArray := prog_1_method_15_code
def yX10_who : MethodName := ⟨RX10, "who", "(I)I"⟩
abbrev cX10_met : ByteArray := prog_1_method_16_code
def yX10_met : MethodName := ⟨RX10, "met", "(I)I"⟩
abbrev cX10_busiest : ByteArray := prog_1_method_17_code
def yX10_busiest : MethodName := ⟨RX10, "busiest", "()I"⟩
abbrev cX10_needs : ByteArray := prog_1_method_18_code
def yX10_needs : MethodName := ⟨RX10, "needs", "(I)I"⟩
abbrev cX10_lend : ByteArray := prog_1_method_19_code
def yX10_lend : MethodName := ⟨RX10, "lend", "(I)I"⟩
abbrev cX10_delay : ByteArray := prog_1_method_20_code
def yX10_delay : MethodName := ⟨RX10, "delay", "(II)I"⟩
abbrev cX10_level : ByteArray := prog_1_method_21_code
def yX10_level : MethodName := ⟨RX10, "level", "(I)I"⟩
abbrev cX10_seen : ByteArray := prog_1_method_22_code
def yX10_seen : MethodName := ⟨RX10, "seen", "(III)I"⟩
abbrev cX10_forget : ByteArray := prog_1_method_23_code
def yX10_forget : MethodName := ⟨RX10, "forget", "()I"⟩
abbrev cX10_never : ByteArray := prog_1_method_24_code
def yX10_never : MethodName := ⟨RX10, "never", "()I"⟩
abbrev cX10_sort : ByteArray := prog_1_method_25_code
def yX10_sort : MethodName := ⟨RX10, "sort", "(I)I"⟩
abbrev cX10_force : ByteArray := prog_1_method_26_code
def yX10_force : MethodName := ⟨RX10, "force", "(II)I"⟩
abbrev cX10_ask : ByteArray := prog_1_method_27_code
def yX10_ask : MethodName := ⟨RX10, "ask", "(I)I"⟩
abbrev cX10_rumour : ByteArray := prog_1_method_28_code
def yX10_rumour : MethodName := ⟨RX10, "rumour", "(III)J"⟩
abbrev cX10_market : ByteArray := prog_1_method_29_code
def yX10_market : MethodName := ⟨RX10, "market", "(II)I"⟩
abbrev cX10_sheet : ByteArray := prog_1_method_30_code
def yX10_sheet : MethodName := ⟨RX10, "sheet", "(III)I"⟩
abbrev cX10_lose : ByteArray := prog_1_method_31_code
def yX10_lose : MethodName := ⟨RX10, "lose", "(I)I"⟩
abbrev cX10_lay : ByteArray := prog_1_method_32_code
def yX10_lay : MethodName := ⟨RX10, "lay", "(IIII)I"⟩
abbrev cX10_get : ByteArray := prog_1_method_33_code
def yX10_get : MethodName := ⟨RX10, "get", "(III)I"⟩
abbrev cX10_copy : ByteArray := prog_1_method_34_code
def yX10_copy : MethodName := ⟨RX10, "copy", "(IIIII)I"⟩
abbrev cX10_write : ByteArray := prog_1_method_35_code
def yX10_write : MethodName := ⟨RX10, "write", "(II)I"⟩
abbrev cX10_count : ByteArray := prog_1_method_36_code
def yX10_count : MethodName := ⟨RX10, "count", "(I)I"⟩
abbrev cX10_digest : ByteArray := prog_1_method_37_code
def yX10_digest : MethodName := ⟨RX10, "digest", "()J"⟩
abbrev cX10_digestOfTexts : ByteArray := prog_1_method_38_code
def yX10_digestOfTexts : MethodName := ⟨RX10, "digestOfTexts", "(J)J"⟩
abbrev cX10_digestOfHours : ByteArray := prog_1_method_39_code
def yX10_digestOfHours : MethodName := ⟨RX10, "digestOfHours", "(JI)J"⟩
abbrev cX10_digestOfHour : ByteArray := prog_1_method_40_code
def yX10_digestOfHour : MethodName := ⟨RX10, "digestOfHour", "(JII)J"⟩
abbrev cX10_digestOfTrials : ByteArray := prog_1_method_41_code
def yX10_digestOfTrials : MethodName := ⟨RX10, "digestOfTrials", "(JI)J"⟩
abbrev cX10_digestOfAll : ByteArray := prog_1_method_42_code
def yX10_digestOfAll : MethodName := ⟨RX10, "digestOfAll", "(J)J"⟩
abbrev cX10_mix : ByteArray := prog_1_method_43_code
def yX10_mix : MethodName := ⟨RX10, "mix", "(JJ)J"⟩
abbrev cX10_within : ByteArray := prog_1_method_44_code
def yX10_within : MethodName := ⟨RX10, "within", "(II)Z"⟩
abbrev cX10_isCarter : ByteArray := prog_1_method_45_code
def yX10_isCarter : MethodName := ⟨RX10, "isCarter", "(I)Z"⟩
abbrev cX10_textOf : ByteArray := prog_1_method_46_code
def yX10_textOf : MethodName := ⟨RX10, "textOf", "(I)LQuestionRoad$Text;"⟩
abbrev cX10_textChanged : ByteArray := prog_1_method_47_code
def yX10_textChanged : MethodName := ⟨RX10, "textChanged", "(I)V"⟩
abbrev cX10_found : ByteArray := prog_1_method_48_code
def yX10_found : MethodName := ⟨RX10, "found", "(I)I"⟩
abbrev cX10_itemRefusal : ByteArray := prog_1_method_49_code
def yX10_itemRefusal : MethodName := ⟨RX10, "itemRefusal", "(III)I"⟩
abbrev cX10_behind : ByteArray := prog_1_method_50_code
def yX10_behind : MethodName := ⟨RX10, "behind", "(III)I"⟩
def RX11 : String := "QuestionRoadModel"
def TX11 : u_T := fun k => match k with
  | 0 => ("QuestionRoadModel", "forms", "[I", true)
  | 1 => ("QuestionRoadModel", "sizes", "[I", true)
  | 2 => ("QuestionRoadModel", "items", "[I", true)
  | 3 => ("QuestionRoadModel", "moved", "[I", true)
  | 4 => ("QuestionRoadModel", "latest", "I", false)
  | 5 => ("QuestionRoadModel", "bytes", "[I", true)
  | 6 => ("QuestionRoadModel", "typed", "[I", true)
  | 7 => ("QuestionRoadModel", "ways", "I", false)
  | 8 => ("QuestionRoadModel", "way", "[I", true)
  | 9 => ("QuestionRoadModel", "carters", "I", false)
  | 10 => ("QuestionRoadModel", "carter", "[I", true)
  | 11 => ("QuestionRoadModel", "late", "[I", true)
  | 12 => ("QuestionRoadModel", "answers", "I", false)
  | 13 => ("QuestionRoadModel", "answer", "[I", true)
  | 14 => ("QuestionRoadModel", "gone", "I", false)
  | 15 => ("QuestionRoadModel", "step", "[I", true)
  | 16 => ("QuestionRoadModel", "far", "[I", true)
  | 17 => ("QuestionRoadModel", "state", "[I", true)
  | 18 => ("QuestionRoadModel", "place", "[I", true)
  | 19 => ("QuestionRoadModel", "strength", "[I", true)
  | 20 => ("QuestionRoadModel", "whither", "[I", true)
  | 21 => ("QuestionRoadModel", "arrives", "[I", true)
  | 22 => ("QuestionRoadModel", "ends", "[I", true)
  | 23 => ("QuestionRoadModel", "kept", "[I", true)
  | 24 => ("QuestionRoadModel", "present", "[I", true)
  | 25 => ("QuestionRoadModel", "arrivals", "[I", true)
  | 26 => ("QuestionRoadModel", "metOn", "I", false)
  | 27 => ("QuestionRoadModel", "metAt", "I", false)
  | 28 => ("QuestionRoadModel", "sights", "I", false)
  | 29 => ("QuestionRoadModel", "sight", "[I", true)
  | 30 => ("QuestionRoadModel", "places", "[I", true)
  | _ => ("QuestionRoadModel", "drawn", "I", false)
def tyX11 : Nat → FieldType := fun k => match k with
  | 0 => .array .int
  | 1 => .array .int
  | 2 => .array .int
  | 3 => .array .int
  | 4 => .int
  | 5 => .array .int
  | 6 => .array .int
  | 7 => .int
  | 8 => .array .int
  | 9 => .int
  | 10 => .array .int
  | 11 => .array .int
  | 12 => .int
  | 13 => .array .int
  | 14 => .int
  | 15 => .array .int
  | 16 => .array .int
  | 17 => .array .int
  | 18 => .array .int
  | 19 => .array .int
  | 20 => .array .int
  | 21 => .array .int
  | 22 => .array .int
  | 23 => .array .int
  | 24 => .array .int
  | 25 => .array .int
  | 26 => .int
  | 27 => .int
  | 28 => .int
  | 29 => .array .int
  | 30 => .array .int
  | _ => .int
theorem nmX11 : ∀ a, a < 32 → ∀ b, b < 32 → a ≠ b → (TX11 a).2.1 ≠ (TX11 b).2.1 := by decide +kernel
theorem tyX11_ok : ∀ k, k < 32 → parseFieldDescriptor (TX11 k).2.2.1 = some (tyX11 k) := by decide +kernel
abbrev cX11_init : ByteArray := prog_13_method_1_code
def yX11_init : MethodName := ⟨RX11, "<init>", "()V"⟩
abbrev cX11_in : ByteArray := prog_13_method_3_code
def yX11_in : MethodName := ⟨RX11, "in", "(JJJ)Z"⟩
abbrev cX11_no : ByteArray := prog_13_method_4_code
def yX11_no : MethodName := ⟨RX11, "no", "(I)J"⟩
abbrev cX11_isTwo : ByteArray := prog_13_method_5_code
def yX11_isTwo : MethodName := ⟨RX11, "isTwo", "(I)Z"⟩
abbrev cX11_isIn : ByteArray := prog_13_method_6_code
def yX11_isIn : MethodName := ⟨RX11, "isIn", "(II)Z"⟩
abbrev cX11_ones : ByteArray := prog_13_method_7_code
def yX11_ones : MethodName := ⟨RX11, "ones", "(I)I"⟩
abbrev cX11_lesser : ByteArray := prog_13_method_8_code
def yX11_lesser : MethodName := ⟨RX11, "lesser", "(II)I"⟩
abbrev cX11_greater : ByteArray := prog_13_method_9_code
def yX11_greater : MethodName := ⟨RX11, "greater", "(II)I"⟩
abbrev cX11_part : ByteArray := prog_13_method_10_code
def yX11_part : MethodName := ⟨RX11, "part", "(JJI)J"⟩
abbrev cX11_finds : ByteArray := prog_13_method_11_code
def yX11_finds : MethodName := ⟨RX11, "finds", "(I)I"⟩
abbrev cX11_isSheet : ByteArray := prog_13_method_12_code
def yX11_isSheet : MethodName := ⟨RX11, "isSheet", "(I)Z"⟩
abbrev cX11_sheet : ByteArray := prog_13_method_13_code
def yX11_sheet : MethodName := ⟨RX11, "sheet", "(III)I"⟩
abbrev cX11_lose : ByteArray := prog_13_method_14_code
def yX11_lose : MethodName := ⟨RX11, "lose", "(I)I"⟩
abbrev cX11_lacks : ByteArray := prog_13_method_15_code
def yX11_lacks : MethodName := ⟨RX11, "lacks", "(III)I"⟩
abbrev cX11_cut : ByteArray := prog_13_method_16_code
def yX11_cut : MethodName := ⟨RX11, "cut", "(II)I"⟩
abbrev cX11_lay : ByteArray := prog_13_method_17_code
def yX11_lay : MethodName := ⟨RX11, "lay", "(IIII)I"⟩
abbrev cX11_get : ByteArray := prog_13_method_18_code
def yX11_get : MethodName := ⟨RX11, "get", "(III)I"⟩
abbrev cX11_copy : ByteArray := prog_13_method_19_code
def yX11_copy : MethodName := ⟨RX11, "copy", "(IIIII)I"⟩
abbrev cX11_type : ByteArray := prog_13_method_20_code
def yX11_type : MethodName := ⟨RX11, "type", "(II)I"⟩
abbrev cX11_wipe : ByteArray := prog_13_method_21_code
def yX11_wipe : MethodName := ⟨RX11, "wipe", "(I)I"⟩
abbrev cX11_undo : ByteArray := prog_13_method_22_code
def yX11_undo : MethodName := ⟨RX11, "undo", "(I)I"⟩
abbrev cX11_placeOf : ByteArray := prog_13_method_23_code
def yX11_placeOf : MethodName := ⟨RX11, "placeOf", "(I)I"⟩
abbrev cX11_figureOf : ByteArray := prog_13_method_24_code
def yX11_figureOf : MethodName := ⟨RX11, "figureOf", "(II)I"⟩
abbrev cX11_wayOf : ByteArray := prog_13_method_25_code
def yX11_wayOf : MethodName := ⟨RX11, "wayOf", "(III)I"⟩
abbrev cX11_readsWays : ByteArray := prog_13_method_26_code
def yX11_readsWays : MethodName := ⟨RX11, "readsWays", "()I"⟩
abbrev cX11_carterOf : ByteArray := prog_13_method_27_code
def yX11_carterOf : MethodName := ⟨RX11, "carterOf", "(II)I"⟩
abbrev cX11_readsCarters : ByteArray := prog_13_method_28_code
def yX11_readsCarters : MethodName := ⟨RX11, "readsCarters", "()I"⟩
abbrev cX11_readsText : ByteArray := prog_13_method_29_code
def yX11_readsText : MethodName := ⟨RX11, "readsText", "(I)I"⟩
abbrev cX11_fault : ByteArray := prog_13_method_30_code
def yX11_fault : MethodName := ⟨RX11, "fault", "(I)I"⟩
abbrev cX11_isCarter : ByteArray := prog_13_method_31_code
def yX11_isCarter : MethodName := ⟨RX11, "isCarter", "(I)Z"⟩
abbrev cX11_isHour : ByteArray := prog_13_method_32_code
def yX11_isHour : MethodName := ⟨RX11, "isHour", "(I)Z"⟩
abbrev cX11_isPlace : ByteArray := prog_13_method_33_code
def yX11_isPlace : MethodName := ⟨RX11, "isPlace", "(I)Z"⟩
abbrev cX11_way : ByteArray := prog_13_method_34_code
def yX11_way : MethodName := ⟨RX11, "way", "(II)I"⟩
abbrev cX11_carter : ByteArray := prog_13_method_35_code
def yX11_carter : MethodName := ⟨RX11, "carter", "(II)I"⟩
abbrev cX11_late : ByteArray := prog_13_method_36_code
def yX11_late : MethodName := ⟨RX11, "late", "(II)I"⟩
abbrev cX11_answer : ByteArray := prog_13_method_37_code
def yX11_answer : MethodName := ⟨RX11, "answer", "(II)I"⟩
abbrev cX11_back : ByteArray := prog_13_method_38_code
def yX11_back : MethodName := ⟨RX11, "back", "()I"⟩
abbrev cX11_read : ByteArray := prog_13_method_39_code
def yX11_read : MethodName := ⟨RX11, "read", "(I)I"⟩
abbrev cX11_maps : ByteArray := prog_13_method_40_code
def yX11_maps : MethodName := ⟨RX11, "maps", "()V"⟩
abbrev cX11_next : ByteArray := prog_13_method_41_code
def yX11_next : MethodName := ⟨RX11, "next", "(II)I"⟩
abbrev cX11_isAnswer : ByteArray := prog_13_method_42_code
def yX11_isAnswer : MethodName := ⟨RX11, "isAnswer", "(II)Z"⟩
abbrev cX11_isTold : ByteArray := prog_13_method_43_code
def yX11_isTold : MethodName := ⟨RX11, "isTold", "(III)Z"⟩
abbrev cX11_stays : ByteArray := prog_13_method_44_code
def yX11_stays : MethodName := ⟨RX11, "stays", "(III)V"⟩
abbrev cX11_goesOn : ByteArray := prog_13_method_45_code
def yX11_goesOn : MethodName := ⟨RX11, "goesOn", "(II)V"⟩
abbrev cX11_gathers : ByteArray := prog_13_method_46_code
def yX11_gathers : MethodName := ⟨RX11, "gathers", "(I)V"⟩
abbrev cX11_keeps : ByteArray := prog_13_method_47_code
def yX11_keeps : MethodName := ⟨RX11, "keeps", "(I)V"⟩
abbrev cX11_lives : ByteArray := prog_13_method_48_code
def yX11_lives : MethodName := ⟨RX11, "lives", "()V"⟩
abbrev cX11_find : ByteArray := prog_13_method_49_code
def yX11_find : MethodName := ⟨RX11, "find", "()V"⟩
abbrev cX11_at : ByteArray := prog_13_method_50_code
def yX11_at : MethodName := ⟨RX11, "at", "(III)I"⟩
abbrev cX11_ends : ByteArray := prog_13_method_51_code
def yX11_ends : MethodName := ⟨RX11, "ends", "(I)I"⟩
abbrev cX11_farBy : ByteArray := prog_13_method_52_code
def yX11_farBy : MethodName := ⟨RX11, "farBy", "(II)I"⟩
abbrev cX11_far : ByteArray := prog_13_method_53_code
def yX11_far : MethodName := ⟨RX11, "far", "(II)I"⟩
abbrev cX11_whoBy : ByteArray := prog_13_method_54_code
def yX11_whoBy : MethodName := ⟨RX11, "whoBy", "(I)I"⟩
abbrev cX11_who : ByteArray := prog_13_method_55_code
def yX11_who : MethodName := ⟨RX11, "who", "(I)I"⟩
abbrev cX11_met : ByteArray := prog_13_method_56_code
def yX11_met : MethodName := ⟨RX11, "met", "(I)I"⟩
abbrev cX11_busiestNow : ByteArray := prog_13_method_57_code
def yX11_busiestNow : MethodName := ⟨RX11, "busiestNow", "()I"⟩
abbrev cX11_busiest : ByteArray := prog_13_method_58_code
def yX11_busiest : MethodName := ⟨RX11, "busiest", "()I"⟩
abbrev cX11_comers : ByteArray := prog_13_method_59_code
def yX11_comers : MethodName := ⟨RX11, "comers", "()I"⟩
abbrev cX11_needsOf : ByteArray := prog_13_method_60_code
def yX11_needsOf : MethodName := ⟨RX11, "needsOf", "(I)I"⟩
abbrev cX11_needs : ByteArray := prog_13_method_61_code
def yX11_needs : MethodName := ⟨RX11, "needs", "(I)I"⟩
abbrev cX11_lends : ByteArray := prog_13_method_62_code
def yX11_lends : MethodName := ⟨RX11, "lends", "(II)V"⟩
abbrev cX11_lendBy : ByteArray := prog_13_method_63_code
def yX11_lendBy : MethodName := ⟨RX11, "lendBy", "(I)I"⟩
abbrev cX11_lend : ByteArray := prog_13_method_64_code
def yX11_lend : MethodName := ⟨RX11, "lend", "(I)I"⟩
abbrev cX11_delayOf : ByteArray := prog_13_method_65_code
def yX11_delayOf : MethodName := ⟨RX11, "delayOf", "(II)I"⟩
abbrev cX11_delay : ByteArray := prog_13_method_66_code
def yX11_delay : MethodName := ⟨RX11, "delay", "(II)I"⟩
abbrev cX11_levelBy : ByteArray := prog_13_method_67_code
def yX11_levelBy : MethodName := ⟨RX11, "levelBy", "(I)I"⟩
abbrev cX11_level : ByteArray := prog_13_method_68_code
def yX11_level : MethodName := ⟨RX11, "level", "(I)I"⟩
abbrev cX11_seen : ByteArray := prog_13_method_69_code
def yX11_seen : MethodName := ⟨RX11, "seen", "(III)I"⟩
abbrev cX11_forget : ByteArray := prog_13_method_70_code
def yX11_forget : MethodName := ⟨RX11, "forget", "()I"⟩
abbrev cX11_isSeen : ByteArray := prog_13_method_71_code
def yX11_isSeen : MethodName := ⟨RX11, "isSeen", "()Z"⟩
abbrev cX11_neverNow : ByteArray := prog_13_method_72_code
def yX11_neverNow : MethodName := ⟨RX11, "neverNow", "()I"⟩
abbrev cX11_never : ByteArray := prog_13_method_73_code
def yX11_never : MethodName := ⟨RX11, "never", "()I"⟩
abbrev cX11_sortOf : ByteArray := prog_13_method_74_code
def yX11_sortOf : MethodName := ⟨RX11, "sortOf", "(I)I"⟩
abbrev cX11_sort : ByteArray := prog_13_method_75_code
def yX11_sort : MethodName := ⟨RX11, "sort", "(I)I"⟩
abbrev cX11_forceOf : ByteArray := prog_13_method_76_code
def yX11_forceOf : MethodName := ⟨RX11, "forceOf", "(II)I"⟩
abbrev cX11_force : ByteArray := prog_13_method_77_code
def yX11_force : MethodName := ⟨RX11, "force", "(II)I"⟩
abbrev cX11_alike : ByteArray := prog_13_method_78_code
def yX11_alike : MethodName := ⟨RX11, "alike", "(II)I"⟩
abbrev cX11_askOf : ByteArray := prog_13_method_79_code
def yX11_askOf : MethodName := ⟨RX11, "askOf", "(I)I"⟩
abbrev cX11_ask : ByteArray := prog_13_method_80_code
def yX11_ask : MethodName := ⟨RX11, "ask", "(I)I"⟩
abbrev cX11_rumourOf : ByteArray := prog_13_method_81_code
def yX11_rumourOf : MethodName := ⟨RX11, "rumourOf", "(III)J"⟩
abbrev cX11_rumour : ByteArray := prog_13_method_82_code
def yX11_rumour : MethodName := ⟨RX11, "rumour", "(III)J"⟩
abbrev cX11_lot : ByteArray := prog_13_method_83_code
def yX11_lot : MethodName := ⟨RX11, "lot", "(I)I"⟩
abbrev cX11_marketOf : ByteArray := prog_13_method_84_code
def yX11_marketOf : MethodName := ⟨RX11, "marketOf", "(II)I"⟩
abbrev cX11_market : ByteArray := prog_13_method_85_code
def yX11_market : MethodName := ⟨RX11, "market", "(II)I"⟩
abbrev cX11_write : ByteArray := prog_13_method_86_code
def yX11_write : MethodName := ⟨RX11, "write", "(II)I"⟩
abbrev cX11_allArrivals : ByteArray := prog_13_method_87_code
def yX11_allArrivals : MethodName := ⟨RX11, "allArrivals", "()I"⟩
abbrev cX11_count : ByteArray := prog_13_method_88_code
def yX11_count : MethodName := ⟨RX11, "count", "(I)I"⟩
abbrev cX11_tellsHour : ByteArray := prog_13_method_89_code
def yX11_tellsHour : MethodName := ⟨RX11, "tellsHour", "(JII)J"⟩
abbrev cX11_tellsCarter : ByteArray := prog_13_method_90_code
def yX11_tellsCarter : MethodName := ⟨RX11, "tellsCarter", "(JI)J"⟩
abbrev cX11_digest : ByteArray := prog_13_method_91_code
def yX11_digest : MethodName := ⟨RX11, "digest", "()J"⟩
def RJ6 : String := "java/lang/Integer"
def TJ6 : u_T := fun k => match k with
  | _ => ("", "", "", false)
def tyJ6 : Nat → FieldType := fun k => match k with
  | _ => .int
theorem nmJ6 : ∀ a, a < 0 → ∀ b, b < 0 → a ≠ b → (TJ6 a).2.1 ≠ (TJ6 b).2.1 := by decide +kernel
theorem tyJ6_ok : ∀ k, k < 0 → parseFieldDescriptor (TJ6 k).2.2.1 = some (tyJ6 k) := by decide +kernel
abbrev cJ6_bitCount_0f7a4 : ByteArray := prog_14_method_49_code
def yJ6_bitCount_0f7a4 : MethodName := ⟨RJ6, "bitCount", "(I)I"⟩
def RJ9 : String := "java/lang/Math"
def TJ9 : u_T := fun k => match k with
  | _ => ("", "", "", false)
def tyJ9 : Nat → FieldType := fun k => match k with
  | _ => .int
theorem nmJ9 : ∀ a, a < 0 → ∀ b, b < 0 → a ≠ b → (TJ9 a).2.1 ≠ (TJ9 b).2.1 := by decide +kernel
theorem tyJ9_ok : ∀ k, k < 0 → parseFieldDescriptor (TJ9 k).2.2.1 = some (tyJ9 k) := by decide +kernel
abbrev cJ9_max_7cf53 : ByteArray := prog_15_method_65_code
def yJ9_max_7cf53 : MethodName := ⟨RJ9, "max", "(II)I"⟩
abbrev cJ9_min_7cf53 : ByteArray := prog_15_method_69_code
def yJ9_min_7cf53 : MethodName := ⟨RJ9, "min", "(II)I"⟩
def RJ10 : String := "java/lang/System"
def TJ10 : u_T := fun k => match k with
  | _ => ("", "", "", false)
def tyJ10 : Nat → FieldType := fun k => match k with
  | _ => .int
theorem nmJ10 : ∀ a, a < 0 → ∀ b, b < 0 → a ≠ b → (TJ10 a).2.1 ≠ (TJ10 b).2.1 := by decide +kernel
theorem tyJ10_ok : ∀ k, k < 0 → parseFieldDescriptor (TJ10 k).2.2.1 = some (tyJ10 k) := by decide +kernel
def RL : String := "QuestionRoadLaw"
abbrev cL_law : ByteArray := code
def yL_law : MethodName := ⟨RL, "law", "([I)Z"⟩
abbrev vwCl : List vw_C := [(RX0, TX0, 3), (RX1, TX1, 7), (RX2, TX2, 3), (RX3, TX3, 13), (RX4, TX4, 5), (RX5, TX5, 7), (RX6, TX6, 12), (RX7, TX7, 10), (RX8, TX8, 4), (RX9, TX9, 6), (RX10, TX10, 10), (RX11, TX11, 32)]
end
section
theorem dX0_init_0 : decode cX0_init 0 = .ok (.aload_n 0, 1) := by decide +kernel
theorem dX0_init_1 : decode cX0_init 1 = .ok (.invokespecial 3, 3) := by decide +kernel
theorem dX0_init_4 : decode cX0_init 4 = .ok (.aload_n 0, 1) := by decide +kernel
theorem dX0_init_5 : decode cX0_init 5 = .ok (.bipush 8, 2) := by decide +kernel
theorem dX0_init_7 : decode cX0_init 7 = .ok (.newarray .int, 2) := by decide +kernel
theorem dX0_init_9 : decode cX0_init 9 = .ok (.putfield 9, 3) := by decide +kernel
theorem dX0_init_12 : decode cX0_init 12 = .ok (.aload_n 0, 1) := by decide +kernel
theorem dX0_init_13 : decode cX0_init 13 = .ok (.bipush 8, 2) := by decide +kernel
theorem dX0_init_15 : decode cX0_init 15 = .ok (.newarray .int, 2) := by decide +kernel
theorem dX0_init_17 : decode cX0_init 17 = .ok (.putfield 15, 3) := by decide +kernel
theorem dX0_init_20 : decode cX0_init 20 = .ok (.aload_n 0, 1) := by decide +kernel
theorem dX0_init_21 : decode cX0_init 21 = .ok (.iconst 0, 1) := by decide +kernel
theorem dX0_init_22 : decode cX0_init 22 = .ok (.putfield 18, 3) := by decide +kernel
theorem dX0_init_25 : decode cX0_init 25 = .ok (.return_, 1) := by decide +kernel
theorem dX0_push_0 : decode cX0_push 0 = .ok (.aload_n 0, 1) := by decide +kernel
theorem dX0_push_1 : decode cX0_push 1 = .ok (.getfield 9, 3) := by decide +kernel
theorem dX0_push_4 : decode cX0_push 4 = .ok (.aload_n 0, 1) := by decide +kernel
theorem dX0_push_5 : decode cX0_push 5 = .ok (.getfield 18, 3) := by decide +kernel
theorem dX0_push_8 : decode cX0_push 8 = .ok (.iload_n 1, 1) := by decide +kernel
theorem dX0_push_9 : decode cX0_push 9 = .ok (.iastore, 1) := by decide +kernel
theorem dX0_push_10 : decode cX0_push 10 = .ok (.aload_n 0, 1) := by decide +kernel
theorem dX0_push_11 : decode cX0_push 11 = .ok (.getfield 15, 3) := by decide +kernel
theorem dX0_push_14 : decode cX0_push 14 = .ok (.aload_n 0, 1) := by decide +kernel
theorem dX0_push_15 : decode cX0_push 15 = .ok (.getfield 18, 3) := by decide +kernel
theorem dX0_push_18 : decode cX0_push 18 = .ok (.iload_n 2, 1) := by decide +kernel
theorem dX0_push_19 : decode cX0_push 19 = .ok (.iastore, 1) := by decide +kernel
theorem dX0_push_20 : decode cX0_push 20 = .ok (.aload_n 0, 1) := by decide +kernel
theorem dX0_push_21 : decode cX0_push 21 = .ok (.dup, 1) := by decide +kernel
theorem dX0_push_22 : decode cX0_push 22 = .ok (.getfield 18, 3) := by decide +kernel
theorem dX0_push_25 : decode cX0_push 25 = .ok (.iconst 1, 1) := by decide +kernel
theorem dX0_push_26 : decode cX0_push 26 = .ok (.iadd, 1) := by decide +kernel
theorem dX0_push_27 : decode cX0_push 27 = .ok (.putfield 18, 3) := by decide +kernel
theorem dX0_push_30 : decode cX0_push 30 = .ok (.return_, 1) := by decide +kernel
theorem dX1_init_0 : decode cX1_init 0 = .ok (.aload_n 0, 1) := by decide +kernel
theorem dX1_init_1 : decode cX1_init 1 = .ok (.invokespecial 3, 3) := by decide +kernel
theorem dX1_init_4 : decode cX1_init 4 = .ok (.aload_n 0, 1) := by decide +kernel
theorem dX1_init_5 : decode cX1_init 5 = .ok (.bipush 8, 2) := by decide +kernel
theorem dX1_init_7 : decode cX1_init 7 = .ok (.newarray .long, 2) := by decide +kernel
theorem dX1_init_9 : decode cX1_init 9 = .ok (.putfield 9, 3) := by decide +kernel
theorem dX1_init_12 : decode cX1_init 12 = .ok (.aload_n 0, 1) := by decide +kernel
theorem dX1_init_13 : decode cX1_init 13 = .ok (.lconst 1, 1) := by decide +kernel
theorem dX1_init_14 : decode cX1_init 14 = .ok (.putfield 15, 3) := by decide +kernel
theorem dX1_init_17 : decode cX1_init 17 = .ok (.aload_n 0, 1) := by decide +kernel
theorem dX1_init_18 : decode cX1_init 18 = .ok (.lconst 0, 1) := by decide +kernel
theorem dX1_init_19 : decode cX1_init 19 = .ok (.putfield 19, 3) := by decide +kernel
theorem dX1_init_22 : decode cX1_init 22 = .ok (.aload_n 0, 1) := by decide +kernel
theorem dX1_init_23 : decode cX1_init 23 = .ok (.lconst 1, 1) := by decide +kernel
theorem dX1_init_24 : decode cX1_init 24 = .ok (.putfield 22, 3) := by decide +kernel
theorem dX1_init_27 : decode cX1_init 27 = .ok (.aload_n 0, 1) := by decide +kernel
theorem dX1_init_28 : decode cX1_init 28 = .ok (.aload_n 1, 1) := by decide +kernel
theorem dX1_init_29 : decode cX1_init 29 = .ok (.putfield 25, 3) := by decide +kernel
theorem dX1_init_32 : decode cX1_init 32 = .ok (.aload_n 0, 1) := by decide +kernel
theorem dX1_init_33 : decode cX1_init 33 = .ok (.aload_n 2, 1) := by decide +kernel
theorem dX1_init_34 : decode cX1_init 34 = .ok (.putfield 29, 3) := by decide +kernel
theorem dX1_init_37 : decode cX1_init 37 = .ok (.aload_n 0, 1) := by decide +kernel
theorem dX1_init_38 : decode cX1_init 38 = .ok (.aload_n 3, 1) := by decide +kernel
theorem dX1_init_39 : decode cX1_init 39 = .ok (.putfield 32, 3) := by decide +kernel
theorem dX1_init_42 : decode cX1_init 42 = .ok (.return_, 1) := by decide +kernel
theorem dX1_weigh_0 : decode cX1_weigh 0 = .ok (.aload_n 0, 1) := by decide +kernel
theorem dX1_weigh_1 : decode cX1_weigh 1 = .ok (.getfield 29, 3) := by decide +kernel
theorem dX1_weigh_4 : decode cX1_weigh 4 = .ok (.aload_n 0, 1) := by decide +kernel
theorem dX1_weigh_5 : decode cX1_weigh 5 = .ok (.getfield 25, 3) := by decide +kernel
theorem dX1_weigh_8 : decode cX1_weigh 8 = .ok (.invokevirtual 36, 3) := by decide +kernel
theorem dX1_weigh_11 : decode cX1_weigh 11 = .ok (.aload_n 0, 1) := by decide +kernel
theorem dX1_weigh_12 : decode cX1_weigh 12 = .ok (.lconst 1, 1) := by decide +kernel
theorem dX1_weigh_13 : decode cX1_weigh 13 = .ok (.iconst 4, 1) := by decide +kernel
theorem dX1_weigh_14 : decode cX1_weigh 14 = .ok (.aload_n 0, 1) := by decide +kernel
theorem dX1_weigh_15 : decode cX1_weigh 15 = .ok (.getfield 25, 3) := by decide +kernel
theorem dX1_weigh_18 : decode cX1_weigh 18 = .ok (.getfield 42, 3) := by decide +kernel
theorem dX1_weigh_21 : decode cX1_weigh 21 = .ok (.getfield 46, 3) := by decide +kernel
theorem dX1_weigh_24 : decode cX1_weigh 24 = .ok (.imul, 1) := by decide +kernel
theorem dX1_weigh_25 : decode cX1_weigh 25 = .ok (.lshl, 1) := by decide +kernel
theorem dX1_weigh_26 : decode cX1_weigh 26 = .ok (.putfield 15, 3) := by decide +kernel
theorem dX1_weigh_29 : decode cX1_weigh 29 = .ok (.iconst 0, 1) := by decide +kernel
theorem dX1_weigh_30 : decode cX1_weigh 30 = .ok (.istore_n 2, 1) := by decide +kernel
theorem dX1_weigh_31 : decode cX1_weigh 31 = .ok (.iload_n 2, 1) := by decide +kernel
theorem dX1_weigh_32 : decode cX1_weigh 32 = .ok (.bipush 8, 2) := by decide +kernel
theorem dX1_weigh_34 : decode cX1_weigh 34 = .ok (.if_icmp .ge 16, 3) := by decide +kernel
theorem dX1_weigh_37 : decode cX1_weigh 37 = .ok (.aload_n 0, 1) := by decide +kernel
theorem dX1_weigh_38 : decode cX1_weigh 38 = .ok (.getfield 9, 3) := by decide +kernel
theorem dX1_weigh_41 : decode cX1_weigh 41 = .ok (.iload_n 2, 1) := by decide +kernel
theorem dX1_weigh_42 : decode cX1_weigh 42 = .ok (.lconst 0, 1) := by decide +kernel
theorem dX1_weigh_43 : decode cX1_weigh 43 = .ok (.lastore, 1) := by decide +kernel
theorem dX1_weigh_44 : decode cX1_weigh 44 = .ok (.iinc 2 1, 3) := by decide +kernel
theorem dX1_weigh_47 : decode cX1_weigh 47 = .ok (.goto (-16), 3) := by decide +kernel
theorem dX1_weigh_50 : decode cX1_weigh 50 = .ok (.iconst 1, 1) := by decide +kernel
theorem dX1_weigh_51 : decode cX1_weigh 51 = .ok (.aload_n 0, 1) := by decide +kernel
theorem dX1_weigh_52 : decode cX1_weigh 52 = .ok (.getfield 25, 3) := by decide +kernel
theorem dX1_weigh_55 : decode cX1_weigh 55 = .ok (.getfield 42, 3) := by decide +kernel
theorem dX1_weigh_58 : decode cX1_weigh 58 = .ok (.getfield 46, 3) := by decide +kernel
theorem dX1_weigh_61 : decode cX1_weigh 61 = .ok (.ishl, 1) := by decide +kernel
theorem dX1_weigh_62 : decode cX1_weigh 62 = .ok (.istore_n 2, 1) := by decide +kernel
theorem dX1_weigh_63 : decode cX1_weigh 63 = .ok (.iconst 0, 1) := by decide +kernel
theorem dX1_weigh_64 : decode cX1_weigh 64 = .ok (.istore_n 3, 1) := by decide +kernel
theorem dX1_weigh_65 : decode cX1_weigh 65 = .ok (.iload_n 3, 1) := by decide +kernel
theorem dX1_weigh_66 : decode cX1_weigh 66 = .ok (.iload_n 2, 1) := by decide +kernel
theorem dX1_weigh_67 : decode cX1_weigh 67 = .ok (.if_icmp .ge 49, 3) := by decide +kernel
theorem dX1_weigh_70 : decode cX1_weigh 70 = .ok (.aload_n 0, 1) := by decide +kernel
theorem dX1_weigh_71 : decode cX1_weigh 71 = .ok (.iload_n 3, 1) := by decide +kernel
theorem dX1_weigh_72 : decode cX1_weigh 72 = .ok (.iload_n 1, 1) := by decide +kernel
theorem dX1_weigh_73 : decode cX1_weigh 73 = .ok (.invokevirtual 52, 3) := by decide +kernel
theorem dX1_weigh_76 : decode cX1_weigh 76 = .ok (.lstore 4, 2) := by decide +kernel
theorem dX1_weigh_78 : decode cX1_weigh 78 = .ok (.lload 4, 2) := by decide +kernel
theorem dX1_weigh_80 : decode cX1_weigh 80 = .ok (.lconst 0, 1) := by decide +kernel
theorem dX1_weigh_81 : decode cX1_weigh 81 = .ok (.lcmp, 1) := by decide +kernel
theorem dX1_weigh_82 : decode cX1_weigh 82 = .ok (.ifCond .le 28, 3) := by decide +kernel
theorem dX1_weigh_85 : decode cX1_weigh 85 = .ok (.aload_n 0, 1) := by decide +kernel
theorem dX1_weigh_86 : decode cX1_weigh 86 = .ok (.getfield 29, 3) := by decide +kernel
theorem dX1_weigh_89 : decode cX1_weigh 89 = .ok (.iload_n 3, 1) := by decide +kernel
theorem dX1_weigh_90 : decode cX1_weigh 90 = .ok (.putfield 56, 3) := by decide +kernel
theorem dX1_weigh_93 : decode cX1_weigh 93 = .ok (.aload_n 0, 1) := by decide +kernel
theorem dX1_weigh_94 : decode cX1_weigh 94 = .ok (.getfield 32, 3) := by decide +kernel
theorem dX1_weigh_97 : decode cX1_weigh 97 = .ok (.aload_n 0, 1) := by decide +kernel
theorem dX1_weigh_98 : decode cX1_weigh 98 = .ok (.getfield 29, 3) := by decide +kernel
theorem dX1_weigh_101 : decode cX1_weigh 101 = .ok (.invokevirtual 59, 3) := by decide +kernel
theorem dX1_weigh_104 : decode cX1_weigh 104 = .ok (.aload_n 0, 1) := by decide +kernel
theorem dX1_weigh_105 : decode cX1_weigh 105 = .ok (.lload 4, 2) := by decide +kernel
theorem dX1_weigh_107 : decode cX1_weigh 107 = .ok (.invokevirtual 64, 3) := by decide +kernel
theorem dX1_weigh_110 : decode cX1_weigh 110 = .ok (.iinc 3 1, 3) := by decide +kernel
theorem dX1_weigh_113 : decode cX1_weigh 113 = .ok (.goto (-48), 3) := by decide +kernel
theorem dX1_weigh_116 : decode cX1_weigh 116 = .ok (.return_, 1) := by decide +kernel
theorem dX1_weightOf_0 : decode cX1_weightOf 0 = .ok (.lconst 1, 1) := by decide +kernel
theorem dX1_weightOf_1 : decode cX1_weightOf 1 = .ok (.lstore_n 3, 1) := by decide +kernel
theorem dX1_weightOf_2 : decode cX1_weightOf 2 = .ok (.iconst 0, 1) := by decide +kernel
theorem dX1_weightOf_3 : decode cX1_weightOf 3 = .ok (.istore 5, 2) := by decide +kernel
theorem dX1_weightOf_5 : decode cX1_weightOf 5 = .ok (.iload 5, 2) := by decide +kernel
theorem dX1_weightOf_7 : decode cX1_weightOf 7 = .ok (.aload_n 0, 1) := by decide +kernel
theorem dX1_weightOf_8 : decode cX1_weightOf 8 = .ok (.getfield 25, 3) := by decide +kernel
theorem dX1_weightOf_11 : decode cX1_weightOf 11 = .ok (.getfield 42, 3) := by decide +kernel
theorem dX1_weightOf_14 : decode cX1_weightOf 14 = .ok (.getfield 46, 3) := by decide +kernel
theorem dX1_weightOf_17 : decode cX1_weightOf 17 = .ok (.if_icmp .ge 32, 3) := by decide +kernel
theorem dX1_weightOf_20 : decode cX1_weightOf 20 = .ok (.lload_n 3, 1) := by decide +kernel
theorem dX1_weightOf_21 : decode cX1_weightOf 21 = .ok (.iload_n 1, 1) := by decide +kernel
theorem dX1_weightOf_22 : decode cX1_weightOf 22 = .ok (.iload 5, 2) := by decide +kernel
theorem dX1_weightOf_24 : decode cX1_weightOf 24 = .ok (.ishr, 1) := by decide +kernel
theorem dX1_weightOf_25 : decode cX1_weightOf 25 = .ok (.iconst 1, 1) := by decide +kernel
theorem dX1_weightOf_26 : decode cX1_weightOf 26 = .ok (.iand, 1) := by decide +kernel
theorem dX1_weightOf_27 : decode cX1_weightOf 27 = .ok (.iconst 1, 1) := by decide +kernel
theorem dX1_weightOf_28 : decode cX1_weightOf 28 = .ok (.if_icmp .ne 11, 3) := by decide +kernel
theorem dX1_weightOf_31 : decode cX1_weightOf 31 = .ok (.bipush 16, 2) := by decide +kernel
theorem dX1_weightOf_33 : decode cX1_weightOf 33 = .ok (.iload_n 2, 1) := by decide +kernel
theorem dX1_weightOf_34 : decode cX1_weightOf 34 = .ok (.isub, 1) := by decide +kernel
theorem dX1_weightOf_35 : decode cX1_weightOf 35 = .ok (.i2l, 1) := by decide +kernel
theorem dX1_weightOf_36 : decode cX1_weightOf 36 = .ok (.goto 5, 3) := by decide +kernel
theorem dX1_weightOf_39 : decode cX1_weightOf 39 = .ok (.iload_n 2, 1) := by decide +kernel
theorem dX1_weightOf_40 : decode cX1_weightOf 40 = .ok (.i2l, 1) := by decide +kernel
theorem dX1_weightOf_41 : decode cX1_weightOf 41 = .ok (.lmul, 1) := by decide +kernel
theorem dX1_weightOf_42 : decode cX1_weightOf 42 = .ok (.lstore_n 3, 1) := by decide +kernel
theorem dX1_weightOf_43 : decode cX1_weightOf 43 = .ok (.iinc 5 1, 3) := by decide +kernel
theorem dX1_weightOf_46 : decode cX1_weightOf 46 = .ok (.goto (-41), 3) := by decide +kernel
theorem dX1_weightOf_49 : decode cX1_weightOf 49 = .ok (.lload_n 3, 1) := by decide +kernel
theorem dX1_weightOf_50 : decode cX1_weightOf 50 = .ok (.lreturn, 1) := by decide +kernel
theorem dX1_addWeight_0 : decode cX1_addWeight 0 = .ok (.iconst 0, 1) := by decide +kernel
theorem dX1_addWeight_1 : decode cX1_addWeight 1 = .ok (.istore_n 3, 1) := by decide +kernel
theorem dX1_addWeight_2 : decode cX1_addWeight 2 = .ok (.iload_n 3, 1) := by decide +kernel
theorem dX1_addWeight_3 : decode cX1_addWeight 3 = .ok (.aload_n 0, 1) := by decide +kernel
theorem dX1_addWeight_4 : decode cX1_addWeight 4 = .ok (.getfield 25, 3) := by decide +kernel
theorem dX1_addWeight_7 : decode cX1_addWeight 7 = .ok (.getfield 68, 3) := by decide +kernel
theorem dX1_addWeight_10 : decode cX1_addWeight 10 = .ok (.if_icmp .ge 32, 3) := by decide +kernel
theorem dX1_addWeight_13 : decode cX1_addWeight 13 = .ok (.aload_n 0, 1) := by decide +kernel
theorem dX1_addWeight_14 : decode cX1_addWeight 14 = .ok (.getfield 32, 3) := by decide +kernel
theorem dX1_addWeight_17 : decode cX1_addWeight 17 = .ok (.getfield 69, 3) := by decide +kernel
theorem dX1_addWeight_20 : decode cX1_addWeight 20 = .ok (.iload_n 3, 1) := by decide +kernel
theorem dX1_addWeight_21 : decode cX1_addWeight 21 = .ok (.iaload, 1) := by decide +kernel
theorem dX1_addWeight_22 : decode cX1_addWeight 22 = .ok (.iconst 2, 1) := by decide +kernel
theorem dX1_addWeight_23 : decode cX1_addWeight 23 = .ok (.if_icmp .ne 13, 3) := by decide +kernel
theorem dX1_addWeight_26 : decode cX1_addWeight 26 = .ok (.aload_n 0, 1) := by decide +kernel
theorem dX1_addWeight_27 : decode cX1_addWeight 27 = .ok (.getfield 9, 3) := by decide +kernel
theorem dX1_addWeight_30 : decode cX1_addWeight 30 = .ok (.iload_n 3, 1) := by decide +kernel
theorem dX1_addWeight_31 : decode cX1_addWeight 31 = .ok (.dup2, 1) := by decide +kernel
theorem dX1_addWeight_32 : decode cX1_addWeight 32 = .ok (.laload, 1) := by decide +kernel
theorem dX1_addWeight_33 : decode cX1_addWeight 33 = .ok (.lload_n 1, 1) := by decide +kernel
theorem dX1_addWeight_34 : decode cX1_addWeight 34 = .ok (.ladd, 1) := by decide +kernel
theorem dX1_addWeight_35 : decode cX1_addWeight 35 = .ok (.lastore, 1) := by decide +kernel
theorem dX1_addWeight_36 : decode cX1_addWeight 36 = .ok (.iinc 3 1, 3) := by decide +kernel
theorem dX1_addWeight_39 : decode cX1_addWeight 39 = .ok (.goto (-37), 3) := by decide +kernel
theorem dX1_addWeight_42 : decode cX1_addWeight 42 = .ok (.return_, 1) := by decide +kernel
theorem dX1_reduce_0 : decode cX1_reduce 0 = .ok (.aload_n 0, 1) := by decide +kernel
theorem dX1_reduce_1 : decode cX1_reduce 1 = .ok (.aload_n 0, 1) := by decide +kernel
theorem dX1_reduce_2 : decode cX1_reduce 2 = .ok (.getfield 9, 3) := by decide +kernel
theorem dX1_reduce_5 : decode cX1_reduce 5 = .ok (.iload_n 1, 1) := by decide +kernel
theorem dX1_reduce_6 : decode cX1_reduce 6 = .ok (.laload, 1) := by decide +kernel
theorem dX1_reduce_7 : decode cX1_reduce 7 = .ok (.putfield 19, 3) := by decide +kernel
theorem dX1_reduce_10 : decode cX1_reduce 10 = .ok (.aload_n 0, 1) := by decide +kernel
theorem dX1_reduce_11 : decode cX1_reduce 11 = .ok (.aload_n 0, 1) := by decide +kernel
theorem dX1_reduce_12 : decode cX1_reduce 12 = .ok (.getfield 15, 3) := by decide +kernel
theorem dX1_reduce_15 : decode cX1_reduce 15 = .ok (.putfield 22, 3) := by decide +kernel
theorem dX1_reduce_18 : decode cX1_reduce 18 = .ok (.iconst 0, 1) := by decide +kernel
theorem dX1_reduce_19 : decode cX1_reduce 19 = .ok (.istore_n 2, 1) := by decide +kernel
theorem dX1_reduce_20 : decode cX1_reduce 20 = .ok (.iload_n 2, 1) := by decide +kernel
theorem dX1_reduce_21 : decode cX1_reduce 21 = .ok (.bipush 63, 2) := by decide +kernel
theorem dX1_reduce_23 : decode cX1_reduce 23 = .ok (.if_icmp .ge 55, 3) := by decide +kernel
theorem dX1_reduce_26 : decode cX1_reduce 26 = .ok (.aload_n 0, 1) := by decide +kernel
theorem dX1_reduce_27 : decode cX1_reduce 27 = .ok (.getfield 22, 3) := by decide +kernel
theorem dX1_reduce_30 : decode cX1_reduce 30 = .ok (.lconst 1, 1) := by decide +kernel
theorem dX1_reduce_31 : decode cX1_reduce 31 = .ok (.lcmp, 1) := by decide +kernel
theorem dX1_reduce_32 : decode cX1_reduce 32 = .ok (.ifCond .le 46, 3) := by decide +kernel
theorem dX1_reduce_35 : decode cX1_reduce 35 = .ok (.aload_n 0, 1) := by decide +kernel
theorem dX1_reduce_36 : decode cX1_reduce 36 = .ok (.getfield 19, 3) := by decide +kernel
theorem dX1_reduce_39 : decode cX1_reduce 39 = .ok (.ldc2_w 73, 3) := by decide +kernel
theorem dX1_reduce_42 : decode cX1_reduce 42 = .ok (.lrem, 1) := by decide +kernel
theorem dX1_reduce_43 : decode cX1_reduce 43 = .ok (.lconst 0, 1) := by decide +kernel
theorem dX1_reduce_44 : decode cX1_reduce 44 = .ok (.lcmp, 1) := by decide +kernel
theorem dX1_reduce_45 : decode cX1_reduce 45 = .ok (.ifCond .ne 33, 3) := by decide +kernel
theorem dX1_reduce_48 : decode cX1_reduce 48 = .ok (.aload_n 0, 1) := by decide +kernel
theorem dX1_reduce_49 : decode cX1_reduce 49 = .ok (.dup, 1) := by decide +kernel
theorem dX1_reduce_50 : decode cX1_reduce 50 = .ok (.getfield 19, 3) := by decide +kernel
theorem dX1_reduce_53 : decode cX1_reduce 53 = .ok (.ldc2_w 73, 3) := by decide +kernel
theorem dX1_reduce_56 : decode cX1_reduce 56 = .ok (.ldiv, 1) := by decide +kernel
theorem dX1_reduce_57 : decode cX1_reduce 57 = .ok (.putfield 19, 3) := by decide +kernel
theorem dX1_reduce_60 : decode cX1_reduce 60 = .ok (.aload_n 0, 1) := by decide +kernel
theorem dX1_reduce_61 : decode cX1_reduce 61 = .ok (.dup, 1) := by decide +kernel
theorem dX1_reduce_62 : decode cX1_reduce 62 = .ok (.getfield 22, 3) := by decide +kernel
theorem dX1_reduce_65 : decode cX1_reduce 65 = .ok (.ldc2_w 73, 3) := by decide +kernel
theorem dX1_reduce_68 : decode cX1_reduce 68 = .ok (.ldiv, 1) := by decide +kernel
theorem dX1_reduce_69 : decode cX1_reduce 69 = .ok (.putfield 22, 3) := by decide +kernel
theorem dX1_reduce_72 : decode cX1_reduce 72 = .ok (.iinc 2 1, 3) := by decide +kernel
theorem dX1_reduce_75 : decode cX1_reduce 75 = .ok (.goto (-55), 3) := by decide +kernel
theorem dX1_reduce_78 : decode cX1_reduce 78 = .ok (.return_, 1) := by decide +kernel
theorem dX1_drawn_0 : decode cX1_drawn 0 = .ok (.aload_n 0, 1) := by decide +kernel
theorem dX1_drawn_1 : decode cX1_drawn 1 = .ok (.getfield 29, 3) := by decide +kernel
theorem dX1_drawn_4 : decode cX1_drawn 4 = .ok (.aload_n 0, 1) := by decide +kernel
theorem dX1_drawn_5 : decode cX1_drawn 5 = .ok (.getfield 25, 3) := by decide +kernel
theorem dX1_drawn_8 : decode cX1_drawn 8 = .ok (.invokevirtual 36, 3) := by decide +kernel
theorem dX1_drawn_11 : decode cX1_drawn 11 = .ok (.iload_n 1, 1) := by decide +kernel
theorem dX1_drawn_12 : decode cX1_drawn 12 = .ok (.istore_n 3, 1) := by decide +kernel
theorem dX1_drawn_13 : decode cX1_drawn 13 = .ok (.iconst 0, 1) := by decide +kernel
theorem dX1_drawn_14 : decode cX1_drawn 14 = .ok (.istore 4, 2) := by decide +kernel
theorem dX1_drawn_16 : decode cX1_drawn 16 = .ok (.iload 4, 2) := by decide +kernel
theorem dX1_drawn_18 : decode cX1_drawn 18 = .ok (.aload_n 0, 1) := by decide +kernel
theorem dX1_drawn_19 : decode cX1_drawn 19 = .ok (.getfield 25, 3) := by decide +kernel
theorem dX1_drawn_22 : decode cX1_drawn 22 = .ok (.getfield 68, 3) := by decide +kernel
theorem dX1_drawn_25 : decode cX1_drawn 25 = .ok (.if_icmp .ge 35, 3) := by decide +kernel
theorem dX1_drawn_28 : decode cX1_drawn 28 = .ok (.ldc 75, 2) := by decide +kernel
theorem dX1_drawn_30 : decode cX1_drawn 30 = .ok (.iload_n 3, 1) := by decide +kernel
theorem dX1_drawn_31 : decode cX1_drawn 31 = .ok (.imul, 1) := by decide +kernel
theorem dX1_drawn_32 : decode cX1_drawn 32 = .ok (.sipush 12345, 3) := by decide +kernel
theorem dX1_drawn_35 : decode cX1_drawn 35 = .ok (.iadd, 1) := by decide +kernel
theorem dX1_drawn_36 : decode cX1_drawn 36 = .ok (.istore_n 3, 1) := by decide +kernel
theorem dX1_drawn_37 : decode cX1_drawn 37 = .ok (.aload_n 0, 1) := by decide +kernel
theorem dX1_drawn_38 : decode cX1_drawn 38 = .ok (.getfield 29, 3) := by decide +kernel
theorem dX1_drawn_41 : decode cX1_drawn 41 = .ok (.getfield 76, 3) := by decide +kernel
theorem dX1_drawn_44 : decode cX1_drawn 44 = .ok (.iload 4, 2) := by decide +kernel
theorem dX1_drawn_46 : decode cX1_drawn 46 = .ok (.iload_n 3, 1) := by decide +kernel
theorem dX1_drawn_47 : decode cX1_drawn 47 = .ok (.bipush 16, 2) := by decide +kernel
theorem dX1_drawn_49 : decode cX1_drawn 49 = .ok (.iushr, 1) := by decide +kernel
theorem dX1_drawn_50 : decode cX1_drawn 50 = .ok (.bipush 100, 2) := by decide +kernel
theorem dX1_drawn_52 : decode cX1_drawn 52 = .ok (.irem, 1) := by decide +kernel
theorem dX1_drawn_53 : decode cX1_drawn 53 = .ok (.iastore, 1) := by decide +kernel
theorem dX1_drawn_54 : decode cX1_drawn 54 = .ok (.iinc 4 1, 3) := by decide +kernel
theorem dX1_drawn_57 : decode cX1_drawn 57 = .ok (.goto (-41), 3) := by decide +kernel
theorem dX1_drawn_60 : decode cX1_drawn 60 = .ok (.aload_n 0, 1) := by decide +kernel
theorem dX1_drawn_61 : decode cX1_drawn 61 = .ok (.getfield 32, 3) := by decide +kernel
theorem dX1_drawn_64 : decode cX1_drawn 64 = .ok (.aload_n 0, 1) := by decide +kernel
theorem dX1_drawn_65 : decode cX1_drawn 65 = .ok (.getfield 29, 3) := by decide +kernel
theorem dX1_drawn_68 : decode cX1_drawn 68 = .ok (.invokevirtual 59, 3) := by decide +kernel
theorem dX1_drawn_71 : decode cX1_drawn 71 = .ok (.aload_n 0, 1) := by decide +kernel
theorem dX1_drawn_72 : decode cX1_drawn 72 = .ok (.getfield 32, 3) := by decide +kernel
theorem dX1_drawn_75 : decode cX1_drawn 75 = .ok (.iload_n 2, 1) := by decide +kernel
theorem dX1_drawn_76 : decode cX1_drawn 76 = .ok (.invokevirtual 79, 3) := by decide +kernel
theorem dX1_drawn_79 : decode cX1_drawn 79 = .ok (.ireturn, 1) := by decide +kernel
theorem dX2_init_0 : decode cX2_init 0 = .ok (.aload_n 0, 1) := by decide +kernel
theorem dX2_init_1 : decode cX2_init 1 = .ok (.invokespecial 3, 3) := by decide +kernel
theorem dX2_init_4 : decode cX2_init 4 = .ok (.aload_n 0, 1) := by decide +kernel
theorem dX2_init_5 : decode cX2_init 5 = .ok (.bipush 64, 2) := by decide +kernel
theorem dX2_init_7 : decode cX2_init 7 = .ok (.newarray .int, 2) := by decide +kernel
theorem dX2_init_9 : decode cX2_init 9 = .ok (.putfield 9, 3) := by decide +kernel
theorem dX2_init_12 : decode cX2_init 12 = .ok (.aload_n 0, 1) := by decide +kernel
theorem dX2_init_13 : decode cX2_init 13 = .ok (.bipush 64, 2) := by decide +kernel
theorem dX2_init_15 : decode cX2_init 15 = .ok (.newarray .int, 2) := by decide +kernel
theorem dX2_init_17 : decode cX2_init 17 = .ok (.putfield 15, 3) := by decide +kernel
theorem dX2_init_20 : decode cX2_init 20 = .ok (.aload_n 0, 1) := by decide +kernel
theorem dX2_init_21 : decode cX2_init 21 = .ok (.bipush 64, 2) := by decide +kernel
theorem dX2_init_23 : decode cX2_init 23 = .ok (.newarray .int, 2) := by decide +kernel
theorem dX2_init_25 : decode cX2_init 25 = .ok (.putfield 18, 3) := by decide +kernel
theorem dX2_init_28 : decode cX2_init 28 = .ok (.return_, 1) := by decide +kernel
theorem dX2_fill_0 : decode cX2_fill 0 = .ok (.iconst 0, 1) := by decide +kernel
theorem dX2_fill_1 : decode cX2_fill 1 = .ok (.istore_n 3, 1) := by decide +kernel
theorem dX2_fill_2 : decode cX2_fill 2 = .ok (.iload_n 3, 1) := by decide +kernel
theorem dX2_fill_3 : decode cX2_fill 3 = .ok (.bipush 64, 2) := by decide +kernel
theorem dX2_fill_5 : decode cX2_fill 5 = .ok (.if_icmp .ge 18, 3) := by decide +kernel
theorem dX2_fill_8 : decode cX2_fill 8 = .ok (.aload_n 0, 1) := by decide +kernel
theorem dX2_fill_9 : decode cX2_fill 9 = .ok (.getfield 9, 3) := by decide +kernel
theorem dX2_fill_12 : decode cX2_fill 12 = .ok (.iload_n 3, 1) := by decide +kernel
theorem dX2_fill_13 : decode cX2_fill 13 = .ok (.sipush 1000, 3) := by decide +kernel
theorem dX2_fill_16 : decode cX2_fill 16 = .ok (.iastore, 1) := by decide +kernel
theorem dX2_fill_17 : decode cX2_fill 17 = .ok (.iinc 3 1, 3) := by decide +kernel
theorem dX2_fill_20 : decode cX2_fill 20 = .ok (.goto (-18), 3) := by decide +kernel
theorem dX2_fill_23 : decode cX2_fill 23 = .ok (.iconst 0, 1) := by decide +kernel
theorem dX2_fill_24 : decode cX2_fill 24 = .ok (.istore_n 3, 1) := by decide +kernel
theorem dX2_fill_25 : decode cX2_fill 25 = .ok (.iload_n 3, 1) := by decide +kernel
theorem dX2_fill_26 : decode cX2_fill 26 = .ok (.aload_n 1, 1) := by decide +kernel
theorem dX2_fill_27 : decode cX2_fill 27 = .ok (.getfield 21, 3) := by decide +kernel
theorem dX2_fill_30 : decode cX2_fill 30 = .ok (.if_icmp .ge 88, 3) := by decide +kernel
theorem dX2_fill_33 : decode cX2_fill 33 = .ok (.iload_n 3, 1) := by decide +kernel
theorem dX2_fill_34 : decode cX2_fill 34 = .ok (.iload_n 2, 1) := by decide +kernel
theorem dX2_fill_35 : decode cX2_fill 35 = .ok (.if_icmp .ne 7, 3) := by decide +kernel
theorem dX2_fill_38 : decode cX2_fill 38 = .ok (.iconst 1, 1) := by decide +kernel
theorem dX2_fill_39 : decode cX2_fill 39 = .ok (.goto 9, 3) := by decide +kernel
theorem dX2_fill_42 : decode cX2_fill 42 = .ok (.aload_n 1, 1) := by decide +kernel
theorem dX2_fill_43 : decode cX2_fill 43 = .ok (.iload_n 3, 1) := by decide +kernel
theorem dX2_fill_44 : decode cX2_fill 44 = .ok (.iconst 3, 1) := by decide +kernel
theorem dX2_fill_45 : decode cX2_fill 45 = .ok (.invokevirtual 27, 3) := by decide +kernel
theorem dX2_fill_48 : decode cX2_fill 48 = .ok (.istore 4, 2) := by decide +kernel
theorem dX2_fill_50 : decode cX2_fill 50 = .ok (.aload_n 1, 1) := by decide +kernel
theorem dX2_fill_51 : decode cX2_fill 51 = .ok (.iload_n 3, 1) := by decide +kernel
theorem dX2_fill_52 : decode cX2_fill 52 = .ok (.iconst 0, 1) := by decide +kernel
theorem dX2_fill_53 : decode cX2_fill 53 = .ok (.invokevirtual 27, 3) := by decide +kernel
theorem dX2_fill_56 : decode cX2_fill 56 = .ok (.istore 5, 2) := by decide +kernel
theorem dX2_fill_58 : decode cX2_fill 58 = .ok (.aload_n 1, 1) := by decide +kernel
theorem dX2_fill_59 : decode cX2_fill 59 = .ok (.iload_n 3, 1) := by decide +kernel
theorem dX2_fill_60 : decode cX2_fill 60 = .ok (.iconst 1, 1) := by decide +kernel
theorem dX2_fill_61 : decode cX2_fill 61 = .ok (.invokevirtual 27, 3) := by decide +kernel
theorem dX2_fill_64 : decode cX2_fill 64 = .ok (.istore 6, 2) := by decide +kernel
theorem dX2_fill_66 : decode cX2_fill 66 = .ok (.aload_n 1, 1) := by decide +kernel
theorem dX2_fill_67 : decode cX2_fill 67 = .ok (.iload_n 3, 1) := by decide +kernel
theorem dX2_fill_68 : decode cX2_fill 68 = .ok (.iconst 2, 1) := by decide +kernel
theorem dX2_fill_69 : decode cX2_fill 69 = .ok (.invokevirtual 27, 3) := by decide +kernel
theorem dX2_fill_72 : decode cX2_fill 72 = .ok (.istore 7, 2) := by decide +kernel
theorem dX2_fill_74 : decode cX2_fill 74 = .ok (.aload_n 0, 1) := by decide +kernel
theorem dX2_fill_75 : decode cX2_fill 75 = .ok (.iload 5, 2) := by decide +kernel
theorem dX2_fill_77 : decode cX2_fill 77 = .ok (.bipush 8, 2) := by decide +kernel
theorem dX2_fill_79 : decode cX2_fill 79 = .ok (.imul, 1) := by decide +kernel
theorem dX2_fill_80 : decode cX2_fill 80 = .ok (.iload 6, 2) := by decide +kernel
theorem dX2_fill_82 : decode cX2_fill 82 = .ok (.iadd, 1) := by decide +kernel
theorem dX2_fill_83 : decode cX2_fill 83 = .ok (.iload 7, 2) := by decide +kernel
theorem dX2_fill_85 : decode cX2_fill 85 = .ok (.iconst 3, 1) := by decide +kernel
theorem dX2_fill_86 : decode cX2_fill 86 = .ok (.iload 4, 2) := by decide +kernel
theorem dX2_fill_88 : decode cX2_fill 88 = .ok (.isub, 1) := by decide +kernel
theorem dX2_fill_89 : decode cX2_fill 89 = .ok (.imul, 1) := by decide +kernel
theorem dX2_fill_90 : decode cX2_fill 90 = .ok (.invokevirtual 31, 3) := by decide +kernel
theorem dX2_fill_93 : decode cX2_fill 93 = .ok (.aload_n 0, 1) := by decide +kernel
theorem dX2_fill_94 : decode cX2_fill 94 = .ok (.iload 6, 2) := by decide +kernel
theorem dX2_fill_96 : decode cX2_fill 96 = .ok (.bipush 8, 2) := by decide +kernel
theorem dX2_fill_98 : decode cX2_fill 98 = .ok (.imul, 1) := by decide +kernel
theorem dX2_fill_99 : decode cX2_fill 99 = .ok (.iload 5, 2) := by decide +kernel
theorem dX2_fill_101 : decode cX2_fill 101 = .ok (.iadd, 1) := by decide +kernel
theorem dX2_fill_102 : decode cX2_fill 102 = .ok (.iload 7, 2) := by decide +kernel
theorem dX2_fill_104 : decode cX2_fill 104 = .ok (.iconst 1, 1) := by decide +kernel
theorem dX2_fill_105 : decode cX2_fill 105 = .ok (.iload 4, 2) := by decide +kernel
theorem dX2_fill_107 : decode cX2_fill 107 = .ok (.iadd, 1) := by decide +kernel
theorem dX2_fill_108 : decode cX2_fill 108 = .ok (.imul, 1) := by decide +kernel
theorem dX2_fill_109 : decode cX2_fill 109 = .ok (.invokevirtual 31, 3) := by decide +kernel
theorem dX2_fill_112 : decode cX2_fill 112 = .ok (.iinc 3 1, 3) := by decide +kernel
theorem dX2_fill_115 : decode cX2_fill 115 = .ok (.goto (-90), 3) := by decide +kernel
theorem dX2_fill_118 : decode cX2_fill 118 = .ok (.aload_n 0, 1) := by decide +kernel
theorem dX2_fill_119 : decode cX2_fill 119 = .ok (.invokevirtual 35, 3) := by decide +kernel
theorem dX2_fill_122 : decode cX2_fill 122 = .ok (.iconst 0, 1) := by decide +kernel
theorem dX2_fill_123 : decode cX2_fill 123 = .ok (.istore_n 3, 1) := by decide +kernel
theorem dX2_fill_124 : decode cX2_fill 124 = .ok (.iload_n 3, 1) := by decide +kernel
theorem dX2_fill_125 : decode cX2_fill 125 = .ok (.bipush 8, 2) := by decide +kernel
theorem dX2_fill_127 : decode cX2_fill 127 = .ok (.if_icmp .ge 44, 3) := by decide +kernel
theorem dX2_fill_130 : decode cX2_fill 130 = .ok (.iconst 0, 1) := by decide +kernel
theorem dX2_fill_131 : decode cX2_fill 131 = .ok (.istore 4, 2) := by decide +kernel
theorem dX2_fill_133 : decode cX2_fill 133 = .ok (.iload 4, 2) := by decide +kernel
theorem dX2_fill_135 : decode cX2_fill 135 = .ok (.bipush 8, 2) := by decide +kernel
theorem dX2_fill_137 : decode cX2_fill 137 = .ok (.if_icmp .ge 28, 3) := by decide +kernel
theorem dX2_fill_140 : decode cX2_fill 140 = .ok (.aload_n 0, 1) := by decide +kernel
theorem dX2_fill_141 : decode cX2_fill 141 = .ok (.getfield 18, 3) := by decide +kernel
theorem dX2_fill_144 : decode cX2_fill 144 = .ok (.iload_n 3, 1) := by decide +kernel
theorem dX2_fill_145 : decode cX2_fill 145 = .ok (.bipush 8, 2) := by decide +kernel
theorem dX2_fill_147 : decode cX2_fill 147 = .ok (.imul, 1) := by decide +kernel
theorem dX2_fill_148 : decode cX2_fill 148 = .ok (.iload 4, 2) := by decide +kernel
theorem dX2_fill_150 : decode cX2_fill 150 = .ok (.iadd, 1) := by decide +kernel
theorem dX2_fill_151 : decode cX2_fill 151 = .ok (.aload_n 0, 1) := by decide +kernel
theorem dX2_fill_152 : decode cX2_fill 152 = .ok (.iload_n 3, 1) := by decide +kernel
theorem dX2_fill_153 : decode cX2_fill 153 = .ok (.iload 4, 2) := by decide +kernel
theorem dX2_fill_155 : decode cX2_fill 155 = .ok (.invokevirtual 38, 3) := by decide +kernel
theorem dX2_fill_158 : decode cX2_fill 158 = .ok (.iastore, 1) := by decide +kernel
theorem dX2_fill_159 : decode cX2_fill 159 = .ok (.iinc 4 1, 3) := by decide +kernel
theorem dX2_fill_162 : decode cX2_fill 162 = .ok (.goto (-29), 3) := by decide +kernel
theorem dX2_fill_165 : decode cX2_fill 165 = .ok (.iinc 3 1, 3) := by decide +kernel
theorem dX2_fill_168 : decode cX2_fill 168 = .ok (.goto (-44), 3) := by decide +kernel
theorem dX2_fill_171 : decode cX2_fill 171 = .ok (.return_, 1) := by decide +kernel
theorem dX2_shorten_0 : decode cX2_shorten 0 = .ok (.aload_n 0, 1) := by decide +kernel
theorem dX2_shorten_1 : decode cX2_shorten 1 = .ok (.getfield 9, 3) := by decide +kernel
theorem dX2_shorten_4 : decode cX2_shorten 4 = .ok (.iload_n 1, 1) := by decide +kernel
theorem dX2_shorten_5 : decode cX2_shorten 5 = .ok (.aload_n 0, 1) := by decide +kernel
theorem dX2_shorten_6 : decode cX2_shorten 6 = .ok (.getfield 9, 3) := by decide +kernel
theorem dX2_shorten_9 : decode cX2_shorten 9 = .ok (.iload_n 1, 1) := by decide +kernel
theorem dX2_shorten_10 : decode cX2_shorten 10 = .ok (.iaload, 1) := by decide +kernel
theorem dX2_shorten_11 : decode cX2_shorten 11 = .ok (.iload_n 2, 1) := by decide +kernel
theorem dX2_shorten_12 : decode cX2_shorten 12 = .ok (.invokestatic 41, 3) := by decide +kernel
theorem dX2_shorten_15 : decode cX2_shorten 15 = .ok (.iastore, 1) := by decide +kernel
theorem dX2_shorten_16 : decode cX2_shorten 16 = .ok (.return_, 1) := by decide +kernel
theorem dX2_addUp_0 : decode cX2_addUp 0 = .ok (.iconst 0, 1) := by decide +kernel
theorem dX2_addUp_1 : decode cX2_addUp 1 = .ok (.istore_n 1, 1) := by decide +kernel
theorem dX2_addUp_2 : decode cX2_addUp 2 = .ok (.iload_n 1, 1) := by decide +kernel
theorem dX2_addUp_3 : decode cX2_addUp 3 = .ok (.bipush 64, 2) := by decide +kernel
theorem dX2_addUp_5 : decode cX2_addUp 5 = .ok (.if_icmp .ge 21, 3) := by decide +kernel
theorem dX2_addUp_8 : decode cX2_addUp 8 = .ok (.aload_n 0, 1) := by decide +kernel
theorem dX2_addUp_9 : decode cX2_addUp 9 = .ok (.getfield 15, 3) := by decide +kernel
theorem dX2_addUp_12 : decode cX2_addUp 12 = .ok (.iload_n 1, 1) := by decide +kernel
theorem dX2_addUp_13 : decode cX2_addUp 13 = .ok (.aload_n 0, 1) := by decide +kernel
theorem dX2_addUp_14 : decode cX2_addUp 14 = .ok (.getfield 9, 3) := by decide +kernel
theorem dX2_addUp_17 : decode cX2_addUp 17 = .ok (.iload_n 1, 1) := by decide +kernel
theorem dX2_addUp_18 : decode cX2_addUp 18 = .ok (.iaload, 1) := by decide +kernel
theorem dX2_addUp_19 : decode cX2_addUp 19 = .ok (.iastore, 1) := by decide +kernel
theorem dX2_addUp_20 : decode cX2_addUp 20 = .ok (.iinc 1 1, 3) := by decide +kernel
theorem dX2_addUp_23 : decode cX2_addUp 23 = .ok (.goto (-21), 3) := by decide +kernel
theorem dX2_addUp_26 : decode cX2_addUp 26 = .ok (.iconst 0, 1) := by decide +kernel
theorem dX2_addUp_27 : decode cX2_addUp 27 = .ok (.istore_n 1, 1) := by decide +kernel
theorem dX2_addUp_28 : decode cX2_addUp 28 = .ok (.iload_n 1, 1) := by decide +kernel
theorem dX2_addUp_29 : decode cX2_addUp 29 = .ok (.bipush 8, 2) := by decide +kernel
theorem dX2_addUp_31 : decode cX2_addUp 31 = .ok (.if_icmp .ge 21, 3) := by decide +kernel
theorem dX2_addUp_34 : decode cX2_addUp 34 = .ok (.aload_n 0, 1) := by decide +kernel
theorem dX2_addUp_35 : decode cX2_addUp 35 = .ok (.getfield 15, 3) := by decide +kernel
theorem dX2_addUp_38 : decode cX2_addUp 38 = .ok (.iload_n 1, 1) := by decide +kernel
theorem dX2_addUp_39 : decode cX2_addUp 39 = .ok (.bipush 8, 2) := by decide +kernel
theorem dX2_addUp_41 : decode cX2_addUp 41 = .ok (.imul, 1) := by decide +kernel
theorem dX2_addUp_42 : decode cX2_addUp 42 = .ok (.iload_n 1, 1) := by decide +kernel
theorem dX2_addUp_43 : decode cX2_addUp 43 = .ok (.iadd, 1) := by decide +kernel
theorem dX2_addUp_44 : decode cX2_addUp 44 = .ok (.iconst 0, 1) := by decide +kernel
theorem dX2_addUp_45 : decode cX2_addUp 45 = .ok (.iastore, 1) := by decide +kernel
theorem dX2_addUp_46 : decode cX2_addUp 46 = .ok (.iinc 1 1, 3) := by decide +kernel
theorem dX2_addUp_49 : decode cX2_addUp 49 = .ok (.goto (-21), 3) := by decide +kernel
theorem dX2_addUp_52 : decode cX2_addUp 52 = .ok (.iconst 0, 1) := by decide +kernel
theorem dX2_addUp_53 : decode cX2_addUp 53 = .ok (.istore_n 1, 1) := by decide +kernel
theorem dX2_addUp_54 : decode cX2_addUp 54 = .ok (.iload_n 1, 1) := by decide +kernel
theorem dX2_addUp_55 : decode cX2_addUp 55 = .ok (.bipush 8, 2) := by decide +kernel
theorem dX2_addUp_57 : decode cX2_addUp 57 = .ok (.if_icmp .ge 105, 3) := by decide +kernel
theorem dX2_addUp_60 : decode cX2_addUp 60 = .ok (.iconst 0, 1) := by decide +kernel
theorem dX2_addUp_61 : decode cX2_addUp 61 = .ok (.istore_n 2, 1) := by decide +kernel
theorem dX2_addUp_62 : decode cX2_addUp 62 = .ok (.iload_n 2, 1) := by decide +kernel
theorem dX2_addUp_63 : decode cX2_addUp 63 = .ok (.bipush 8, 2) := by decide +kernel
theorem dX2_addUp_65 : decode cX2_addUp 65 = .ok (.if_icmp .ge 91, 3) := by decide +kernel
theorem dX2_addUp_68 : decode cX2_addUp 68 = .ok (.aload_n 0, 1) := by decide +kernel
theorem dX2_addUp_69 : decode cX2_addUp 69 = .ok (.getfield 15, 3) := by decide +kernel
theorem dX2_addUp_72 : decode cX2_addUp 72 = .ok (.iload_n 2, 1) := by decide +kernel
theorem dX2_addUp_73 : decode cX2_addUp 73 = .ok (.bipush 8, 2) := by decide +kernel
theorem dX2_addUp_75 : decode cX2_addUp 75 = .ok (.imul, 1) := by decide +kernel
theorem dX2_addUp_76 : decode cX2_addUp 76 = .ok (.iload_n 1, 1) := by decide +kernel
theorem dX2_addUp_77 : decode cX2_addUp 77 = .ok (.iadd, 1) := by decide +kernel
theorem dX2_addUp_78 : decode cX2_addUp 78 = .ok (.iaload, 1) := by decide +kernel
theorem dX2_addUp_79 : decode cX2_addUp 79 = .ok (.istore_n 3, 1) := by decide +kernel
theorem dX2_addUp_80 : decode cX2_addUp 80 = .ok (.iconst 0, 1) := by decide +kernel
theorem dX2_addUp_81 : decode cX2_addUp 81 = .ok (.istore 4, 2) := by decide +kernel
theorem dX2_addUp_83 : decode cX2_addUp 83 = .ok (.iload_n 3, 1) := by decide +kernel
theorem dX2_addUp_84 : decode cX2_addUp 84 = .ok (.sipush 1000, 3) := by decide +kernel
theorem dX2_addUp_87 : decode cX2_addUp 87 = .ok (.if_icmp .ge 63, 3) := by decide +kernel
theorem dX2_addUp_90 : decode cX2_addUp 90 = .ok (.iload 4, 2) := by decide +kernel
theorem dX2_addUp_92 : decode cX2_addUp 92 = .ok (.bipush 8, 2) := by decide +kernel
theorem dX2_addUp_94 : decode cX2_addUp 94 = .ok (.if_icmp .ge 56, 3) := by decide +kernel
theorem dX2_addUp_97 : decode cX2_addUp 97 = .ok (.iload_n 3, 1) := by decide +kernel
theorem dX2_addUp_98 : decode cX2_addUp 98 = .ok (.aload_n 0, 1) := by decide +kernel
theorem dX2_addUp_99 : decode cX2_addUp 99 = .ok (.getfield 15, 3) := by decide +kernel
theorem dX2_addUp_102 : decode cX2_addUp 102 = .ok (.iload_n 1, 1) := by decide +kernel
theorem dX2_addUp_103 : decode cX2_addUp 103 = .ok (.bipush 8, 2) := by decide +kernel
theorem dX2_addUp_105 : decode cX2_addUp 105 = .ok (.imul, 1) := by decide +kernel
theorem dX2_addUp_106 : decode cX2_addUp 106 = .ok (.iload 4, 2) := by decide +kernel
theorem dX2_addUp_108 : decode cX2_addUp 108 = .ok (.iadd, 1) := by decide +kernel
theorem dX2_addUp_109 : decode cX2_addUp 109 = .ok (.iaload, 1) := by decide +kernel
theorem dX2_addUp_110 : decode cX2_addUp 110 = .ok (.iadd, 1) := by decide +kernel
theorem dX2_addUp_111 : decode cX2_addUp 111 = .ok (.istore 5, 2) := by decide +kernel
theorem dX2_addUp_113 : decode cX2_addUp 113 = .ok (.iload 5, 2) := by decide +kernel
theorem dX2_addUp_115 : decode cX2_addUp 115 = .ok (.aload_n 0, 1) := by decide +kernel
theorem dX2_addUp_116 : decode cX2_addUp 116 = .ok (.getfield 15, 3) := by decide +kernel
theorem dX2_addUp_119 : decode cX2_addUp 119 = .ok (.iload_n 2, 1) := by decide +kernel
theorem dX2_addUp_120 : decode cX2_addUp 120 = .ok (.bipush 8, 2) := by decide +kernel
theorem dX2_addUp_122 : decode cX2_addUp 122 = .ok (.imul, 1) := by decide +kernel
theorem dX2_addUp_123 : decode cX2_addUp 123 = .ok (.iload 4, 2) := by decide +kernel
theorem dX2_addUp_125 : decode cX2_addUp 125 = .ok (.iadd, 1) := by decide +kernel
theorem dX2_addUp_126 : decode cX2_addUp 126 = .ok (.iaload, 1) := by decide +kernel
theorem dX2_addUp_127 : decode cX2_addUp 127 = .ok (.if_icmp .ge 17, 3) := by decide +kernel
theorem dX2_addUp_130 : decode cX2_addUp 130 = .ok (.aload_n 0, 1) := by decide +kernel
theorem dX2_addUp_131 : decode cX2_addUp 131 = .ok (.getfield 15, 3) := by decide +kernel
theorem dX2_addUp_134 : decode cX2_addUp 134 = .ok (.iload_n 2, 1) := by decide +kernel
theorem dX2_addUp_135 : decode cX2_addUp 135 = .ok (.bipush 8, 2) := by decide +kernel
theorem dX2_addUp_137 : decode cX2_addUp 137 = .ok (.imul, 1) := by decide +kernel
theorem dX2_addUp_138 : decode cX2_addUp 138 = .ok (.iload 4, 2) := by decide +kernel
theorem dX2_addUp_140 : decode cX2_addUp 140 = .ok (.iadd, 1) := by decide +kernel
theorem dX2_addUp_141 : decode cX2_addUp 141 = .ok (.iload 5, 2) := by decide +kernel
theorem dX2_addUp_143 : decode cX2_addUp 143 = .ok (.iastore, 1) := by decide +kernel
theorem dX2_addUp_144 : decode cX2_addUp 144 = .ok (.iinc 4 1, 3) := by decide +kernel
theorem dX2_addUp_147 : decode cX2_addUp 147 = .ok (.goto (-64), 3) := by decide +kernel
theorem dX2_addUp_150 : decode cX2_addUp 150 = .ok (.iinc 2 1, 3) := by decide +kernel
theorem dX2_addUp_153 : decode cX2_addUp 153 = .ok (.goto (-91), 3) := by decide +kernel
theorem dX2_addUp_156 : decode cX2_addUp 156 = .ok (.iinc 1 1, 3) := by decide +kernel
theorem dX2_addUp_159 : decode cX2_addUp 159 = .ok (.goto (-105), 3) := by decide +kernel
theorem dX2_addUp_162 : decode cX2_addUp 162 = .ok (.return_, 1) := by decide +kernel
theorem dX2_firstTurn_0 : decode cX2_firstTurn 0 = .ok (.aload_n 0, 1) := by decide +kernel
theorem dX2_firstTurn_1 : decode cX2_firstTurn 1 = .ok (.getfield 15, 3) := by decide +kernel
theorem dX2_firstTurn_4 : decode cX2_firstTurn 4 = .ok (.iload_n 1, 1) := by decide +kernel
theorem dX2_firstTurn_5 : decode cX2_firstTurn 5 = .ok (.bipush 8, 2) := by decide +kernel
theorem dX2_firstTurn_7 : decode cX2_firstTurn 7 = .ok (.imul, 1) := by decide +kernel
theorem dX2_firstTurn_8 : decode cX2_firstTurn 8 = .ok (.iload_n 2, 1) := by decide +kernel
theorem dX2_firstTurn_9 : decode cX2_firstTurn 9 = .ok (.iadd, 1) := by decide +kernel
theorem dX2_firstTurn_10 : decode cX2_firstTurn 10 = .ok (.iaload, 1) := by decide +kernel
theorem dX2_firstTurn_11 : decode cX2_firstTurn 11 = .ok (.istore_n 3, 1) := by decide +kernel
theorem dX2_firstTurn_12 : decode cX2_firstTurn 12 = .ok (.iload_n 1, 1) := by decide +kernel
theorem dX2_firstTurn_13 : decode cX2_firstTurn 13 = .ok (.iload_n 2, 1) := by decide +kernel
theorem dX2_firstTurn_14 : decode cX2_firstTurn 14 = .ok (.if_icmp .eq 10, 3) := by decide +kernel
theorem dX2_firstTurn_17 : decode cX2_firstTurn 17 = .ok (.iload_n 3, 1) := by decide +kernel
theorem dX2_firstTurn_18 : decode cX2_firstTurn 18 = .ok (.sipush 1000, 3) := by decide +kernel
theorem dX2_firstTurn_21 : decode cX2_firstTurn 21 = .ok (.if_icmp .lt 5, 3) := by decide +kernel
theorem dX2_firstTurn_24 : decode cX2_firstTurn 24 = .ok (.iconst (-1), 1) := by decide +kernel
theorem dX2_firstTurn_25 : decode cX2_firstTurn 25 = .ok (.ireturn, 1) := by decide +kernel
theorem dX2_firstTurn_26 : decode cX2_firstTurn 26 = .ok (.iconst 0, 1) := by decide +kernel
theorem dX2_firstTurn_27 : decode cX2_firstTurn 27 = .ok (.istore 4, 2) := by decide +kernel
theorem dX2_firstTurn_29 : decode cX2_firstTurn 29 = .ok (.iload 4, 2) := by decide +kernel
theorem dX2_firstTurn_31 : decode cX2_firstTurn 31 = .ok (.bipush 8, 2) := by decide +kernel
theorem dX2_firstTurn_33 : decode cX2_firstTurn 33 = .ok (.if_icmp .ge 41, 3) := by decide +kernel
theorem dX2_firstTurn_36 : decode cX2_firstTurn 36 = .ok (.aload_n 0, 1) := by decide +kernel
theorem dX2_firstTurn_37 : decode cX2_firstTurn 37 = .ok (.getfield 9, 3) := by decide +kernel
theorem dX2_firstTurn_40 : decode cX2_firstTurn 40 = .ok (.iload_n 1, 1) := by decide +kernel
theorem dX2_firstTurn_41 : decode cX2_firstTurn 41 = .ok (.bipush 8, 2) := by decide +kernel
theorem dX2_firstTurn_43 : decode cX2_firstTurn 43 = .ok (.imul, 1) := by decide +kernel
theorem dX2_firstTurn_44 : decode cX2_firstTurn 44 = .ok (.iload 4, 2) := by decide +kernel
theorem dX2_firstTurn_46 : decode cX2_firstTurn 46 = .ok (.iadd, 1) := by decide +kernel
theorem dX2_firstTurn_47 : decode cX2_firstTurn 47 = .ok (.iaload, 1) := by decide +kernel
theorem dX2_firstTurn_48 : decode cX2_firstTurn 48 = .ok (.aload_n 0, 1) := by decide +kernel
theorem dX2_firstTurn_49 : decode cX2_firstTurn 49 = .ok (.getfield 15, 3) := by decide +kernel
theorem dX2_firstTurn_52 : decode cX2_firstTurn 52 = .ok (.iload 4, 2) := by decide +kernel
theorem dX2_firstTurn_54 : decode cX2_firstTurn 54 = .ok (.bipush 8, 2) := by decide +kernel
theorem dX2_firstTurn_56 : decode cX2_firstTurn 56 = .ok (.imul, 1) := by decide +kernel
theorem dX2_firstTurn_57 : decode cX2_firstTurn 57 = .ok (.iload_n 2, 1) := by decide +kernel
theorem dX2_firstTurn_58 : decode cX2_firstTurn 58 = .ok (.iadd, 1) := by decide +kernel
theorem dX2_firstTurn_59 : decode cX2_firstTurn 59 = .ok (.iaload, 1) := by decide +kernel
theorem dX2_firstTurn_60 : decode cX2_firstTurn 60 = .ok (.iadd, 1) := by decide +kernel
theorem dX2_firstTurn_61 : decode cX2_firstTurn 61 = .ok (.iload_n 3, 1) := by decide +kernel
theorem dX2_firstTurn_62 : decode cX2_firstTurn 62 = .ok (.if_icmp .ne 6, 3) := by decide +kernel
theorem dX2_firstTurn_65 : decode cX2_firstTurn 65 = .ok (.iload 4, 2) := by decide +kernel
theorem dX2_firstTurn_67 : decode cX2_firstTurn 67 = .ok (.ireturn, 1) := by decide +kernel
theorem dX2_firstTurn_68 : decode cX2_firstTurn 68 = .ok (.iinc 4 1, 3) := by decide +kernel
theorem dX2_firstTurn_71 : decode cX2_firstTurn 71 = .ok (.goto (-42), 3) := by decide +kernel
theorem dX2_firstTurn_74 : decode cX2_firstTurn 74 = .ok (.iconst (-1), 1) := by decide +kernel
theorem dX2_firstTurn_75 : decode cX2_firstTurn 75 = .ok (.ireturn, 1) := by decide +kernel
theorem dX2_step_0 : decode cX2_step 0 = .ok (.aload_n 0, 1) := by decide +kernel
theorem dX2_step_1 : decode cX2_step 1 = .ok (.getfield 9, 3) := by decide +kernel
theorem dX2_step_4 : decode cX2_step 4 = .ok (.iload_n 1, 1) := by decide +kernel
theorem dX2_step_5 : decode cX2_step 5 = .ok (.bipush 8, 2) := by decide +kernel
theorem dX2_step_7 : decode cX2_step 7 = .ok (.imul, 1) := by decide +kernel
theorem dX2_step_8 : decode cX2_step 8 = .ok (.iload_n 2, 1) := by decide +kernel
theorem dX2_step_9 : decode cX2_step 9 = .ok (.iadd, 1) := by decide +kernel
theorem dX2_step_10 : decode cX2_step 10 = .ok (.iaload, 1) := by decide +kernel
theorem dX2_step_11 : decode cX2_step 11 = .ok (.ireturn, 1) := by decide +kernel
theorem dX2_distance_0 : decode cX2_distance 0 = .ok (.aload_n 0, 1) := by decide +kernel
theorem dX2_distance_1 : decode cX2_distance 1 = .ok (.getfield 15, 3) := by decide +kernel
theorem dX2_distance_4 : decode cX2_distance 4 = .ok (.iload_n 1, 1) := by decide +kernel
theorem dX2_distance_5 : decode cX2_distance 5 = .ok (.bipush 8, 2) := by decide +kernel
theorem dX2_distance_7 : decode cX2_distance 7 = .ok (.imul, 1) := by decide +kernel
theorem dX2_distance_8 : decode cX2_distance 8 = .ok (.iload_n 2, 1) := by decide +kernel
theorem dX2_distance_9 : decode cX2_distance 9 = .ok (.iadd, 1) := by decide +kernel
theorem dX2_distance_10 : decode cX2_distance 10 = .ok (.iaload, 1) := by decide +kernel
theorem dX2_distance_11 : decode cX2_distance 11 = .ok (.istore_n 3, 1) := by decide +kernel
theorem dX2_distance_12 : decode cX2_distance 12 = .ok (.iload_n 3, 1) := by decide +kernel
theorem dX2_distance_13 : decode cX2_distance 13 = .ok (.sipush 1000, 3) := by decide +kernel
theorem dX2_distance_16 : decode cX2_distance 16 = .ok (.if_icmp .ge 7, 3) := by decide +kernel
theorem dX2_distance_19 : decode cX2_distance 19 = .ok (.iload_n 3, 1) := by decide +kernel
theorem dX2_distance_20 : decode cX2_distance 20 = .ok (.goto 4, 3) := by decide +kernel
theorem dX2_distance_23 : decode cX2_distance 23 = .ok (.iconst (-1), 1) := by decide +kernel
theorem dX2_distance_24 : decode cX2_distance 24 = .ok (.ireturn, 1) := by decide +kernel
theorem dX2_turn_0 : decode cX2_turn 0 = .ok (.aload_n 0, 1) := by decide +kernel
theorem dX2_turn_1 : decode cX2_turn 1 = .ok (.getfield 18, 3) := by decide +kernel
theorem dX2_turn_4 : decode cX2_turn 4 = .ok (.iload_n 1, 1) := by decide +kernel
theorem dX2_turn_5 : decode cX2_turn 5 = .ok (.bipush 8, 2) := by decide +kernel
theorem dX2_turn_7 : decode cX2_turn 7 = .ok (.imul, 1) := by decide +kernel
theorem dX2_turn_8 : decode cX2_turn 8 = .ok (.iload_n 2, 1) := by decide +kernel
theorem dX2_turn_9 : decode cX2_turn 9 = .ok (.iadd, 1) := by decide +kernel
theorem dX2_turn_10 : decode cX2_turn 10 = .ok (.iaload, 1) := by decide +kernel
theorem dX2_turn_11 : decode cX2_turn 11 = .ok (.ireturn, 1) := by decide +kernel
theorem dX3_init_0 : decode cX3_init 0 = .ok (.aload_n 0, 1) := by decide +kernel
theorem dX3_init_1 : decode cX3_init 1 = .ok (.invokespecial 3, 3) := by decide +kernel
theorem dX3_init_4 : decode cX3_init 4 = .ok (.aload_n 0, 1) := by decide +kernel
theorem dX3_init_5 : decode cX3_init 5 = .ok (.bipush 8, 2) := by decide +kernel
theorem dX3_init_7 : decode cX3_init 7 = .ok (.newarray .int, 2) := by decide +kernel
theorem dX3_init_9 : decode cX3_init 9 = .ok (.putfield 9, 3) := by decide +kernel
theorem dX3_init_12 : decode cX3_init 12 = .ok (.aload_n 0, 1) := by decide +kernel
theorem dX3_init_13 : decode cX3_init 13 = .ok (.bipush 8, 2) := by decide +kernel
theorem dX3_init_15 : decode cX3_init 15 = .ok (.newarray .int, 2) := by decide +kernel
theorem dX3_init_17 : decode cX3_init 17 = .ok (.putfield 15, 3) := by decide +kernel
theorem dX3_init_20 : decode cX3_init 20 = .ok (.aload_n 0, 1) := by decide +kernel
theorem dX3_init_21 : decode cX3_init 21 = .ok (.bipush 8, 2) := by decide +kernel
theorem dX3_init_23 : decode cX3_init 23 = .ok (.newarray .int, 2) := by decide +kernel
theorem dX3_init_25 : decode cX3_init 25 = .ok (.putfield 18, 3) := by decide +kernel
theorem dX3_init_28 : decode cX3_init 28 = .ok (.aload_n 0, 1) := by decide +kernel
theorem dX3_init_29 : decode cX3_init 29 = .ok (.iconst 3, 1) := by decide +kernel
theorem dX3_init_30 : decode cX3_init 30 = .ok (.newarray .int, 2) := by decide +kernel
theorem dX3_init_32 : decode cX3_init 32 = .ok (.putfield 21, 3) := by decide +kernel
theorem dX3_init_35 : decode cX3_init 35 = .ok (.aload_n 0, 1) := by decide +kernel
theorem dX3_init_36 : decode cX3_init 36 = .ok (.iconst 3, 1) := by decide +kernel
theorem dX3_init_37 : decode cX3_init 37 = .ok (.newarray .int, 2) := by decide +kernel
theorem dX3_init_39 : decode cX3_init 39 = .ok (.putfield 24, 3) := by decide +kernel
theorem dX3_init_42 : decode cX3_init 42 = .ok (.aload_n 0, 1) := by decide +kernel
theorem dX3_init_43 : decode cX3_init 43 = .ok (.iconst 0, 1) := by decide +kernel
theorem dX3_init_44 : decode cX3_init 44 = .ok (.putfield 27, 3) := by decide +kernel
theorem dX3_init_47 : decode cX3_init 47 = .ok (.aload_n 0, 1) := by decide +kernel
theorem dX3_init_48 : decode cX3_init 48 = .ok (.iconst 0, 1) := by decide +kernel
theorem dX3_init_49 : decode cX3_init 49 = .ok (.putfield 31, 3) := by decide +kernel
theorem dX3_init_52 : decode cX3_init 52 = .ok (.aload_n 0, 1) := by decide +kernel
theorem dX3_init_53 : decode cX3_init 53 = .ok (.iconst 0, 1) := by decide +kernel
theorem dX3_init_54 : decode cX3_init 54 = .ok (.putfield 34, 3) := by decide +kernel
theorem dX3_init_57 : decode cX3_init 57 = .ok (.aload_n 0, 1) := by decide +kernel
theorem dX3_init_58 : decode cX3_init 58 = .ok (.iconst (-1), 1) := by decide +kernel
theorem dX3_init_59 : decode cX3_init 59 = .ok (.putfield 37, 3) := by decide +kernel
theorem dX3_init_62 : decode cX3_init 62 = .ok (.aload_n 0, 1) := by decide +kernel
theorem dX3_init_63 : decode cX3_init 63 = .ok (.iconst (-1), 1) := by decide +kernel
theorem dX3_init_64 : decode cX3_init 64 = .ok (.putfield 40, 3) := by decide +kernel
theorem dX3_init_67 : decode cX3_init 67 = .ok (.aload_n 0, 1) := by decide +kernel
theorem dX3_init_68 : decode cX3_init 68 = .ok (.aload_n 1, 1) := by decide +kernel
theorem dX3_init_69 : decode cX3_init 69 = .ok (.putfield 43, 3) := by decide +kernel
theorem dX3_init_72 : decode cX3_init 72 = .ok (.aload_n 0, 1) := by decide +kernel
theorem dX3_init_73 : decode cX3_init 73 = .ok (.aload_n 2, 1) := by decide +kernel
theorem dX3_init_74 : decode cX3_init 74 = .ok (.putfield 47, 3) := by decide +kernel
theorem dX3_init_77 : decode cX3_init 77 = .ok (.aload_n 0, 1) := by decide +kernel
theorem dX3_init_78 : decode cX3_init 78 = .ok (.aload_n 3, 1) := by decide +kernel
theorem dX3_init_79 : decode cX3_init 79 = .ok (.putfield 50, 3) := by decide +kernel
theorem dX3_init_82 : decode cX3_init 82 = .ok (.return_, 1) := by decide +kernel
theorem dX3_push_0 : decode cX3_push 0 = .ok (.aload_n 0, 1) := by decide +kernel
theorem dX3_push_1 : decode cX3_push 1 = .ok (.getfield 9, 3) := by decide +kernel
theorem dX3_push_4 : decode cX3_push 4 = .ok (.aload_n 0, 1) := by decide +kernel
theorem dX3_push_5 : decode cX3_push 5 = .ok (.getfield 31, 3) := by decide +kernel
theorem dX3_push_8 : decode cX3_push 8 = .ok (.iload_n 1, 1) := by decide +kernel
theorem dX3_push_9 : decode cX3_push 9 = .ok (.iastore, 1) := by decide +kernel
theorem dX3_push_10 : decode cX3_push 10 = .ok (.aload_n 0, 1) := by decide +kernel
theorem dX3_push_11 : decode cX3_push 11 = .ok (.getfield 15, 3) := by decide +kernel
theorem dX3_push_14 : decode cX3_push 14 = .ok (.aload_n 0, 1) := by decide +kernel
theorem dX3_push_15 : decode cX3_push 15 = .ok (.getfield 31, 3) := by decide +kernel
theorem dX3_push_18 : decode cX3_push 18 = .ok (.iload_n 2, 1) := by decide +kernel
theorem dX3_push_19 : decode cX3_push 19 = .ok (.iastore, 1) := by decide +kernel
theorem dX3_push_20 : decode cX3_push 20 = .ok (.aload_n 0, 1) := by decide +kernel
theorem dX3_push_21 : decode cX3_push 21 = .ok (.getfield 18, 3) := by decide +kernel
theorem dX3_push_24 : decode cX3_push 24 = .ok (.aload_n 0, 1) := by decide +kernel
theorem dX3_push_25 : decode cX3_push 25 = .ok (.getfield 31, 3) := by decide +kernel
theorem dX3_push_28 : decode cX3_push 28 = .ok (.iload_n 3, 1) := by decide +kernel
theorem dX3_push_29 : decode cX3_push 29 = .ok (.bipush 8, 2) := by decide +kernel
theorem dX3_push_31 : decode cX3_push 31 = .ok (.if_icmp .ge 7, 3) := by decide +kernel
theorem dX3_push_34 : decode cX3_push 34 = .ok (.iload_n 3, 1) := by decide +kernel
theorem dX3_push_35 : decode cX3_push 35 = .ok (.goto 4, 3) := by decide +kernel
theorem dX3_push_38 : decode cX3_push 38 = .ok (.iconst (-1), 1) := by decide +kernel
theorem dX3_push_39 : decode cX3_push 39 = .ok (.iastore, 1) := by decide +kernel
theorem dX3_push_40 : decode cX3_push 40 = .ok (.aload_n 0, 1) := by decide +kernel
theorem dX3_push_41 : decode cX3_push 41 = .ok (.dup, 1) := by decide +kernel
theorem dX3_push_42 : decode cX3_push 42 = .ok (.getfield 31, 3) := by decide +kernel
theorem dX3_push_45 : decode cX3_push 45 = .ok (.iconst 1, 1) := by decide +kernel
theorem dX3_push_46 : decode cX3_push 46 = .ok (.iadd, 1) := by decide +kernel
theorem dX3_push_47 : decode cX3_push 47 = .ok (.putfield 31, 3) := by decide +kernel
theorem dX3_push_50 : decode cX3_push 50 = .ok (.return_, 1) := by decide +kernel
theorem dX3_trialFits_0 : decode cX3_trialFits 0 = .ok (.aload_n 0, 1) := by decide +kernel
theorem dX3_trialFits_1 : decode cX3_trialFits 1 = .ok (.getfield 50, 3) := by decide +kernel
theorem dX3_trialFits_4 : decode cX3_trialFits 4 = .ok (.aload_n 0, 1) := by decide +kernel
theorem dX3_trialFits_5 : decode cX3_trialFits 5 = .ok (.getfield 47, 3) := by decide +kernel
theorem dX3_trialFits_8 : decode cX3_trialFits 8 = .ok (.invokevirtual 54, 3) := by decide +kernel
theorem dX3_trialFits_11 : decode cX3_trialFits 11 = .ok (.iconst 0, 1) := by decide +kernel
theorem dX3_trialFits_12 : decode cX3_trialFits 12 = .ok (.istore_n 1, 1) := by decide +kernel
theorem dX3_trialFits_13 : decode cX3_trialFits 13 = .ok (.iload_n 1, 1) := by decide +kernel
theorem dX3_trialFits_14 : decode cX3_trialFits 14 = .ok (.aload_n 0, 1) := by decide +kernel
theorem dX3_trialFits_15 : decode cX3_trialFits 15 = .ok (.getfield 31, 3) := by decide +kernel
theorem dX3_trialFits_18 : decode cX3_trialFits 18 = .ok (.if_icmp .ge 55, 3) := by decide +kernel
theorem dX3_trialFits_21 : decode cX3_trialFits 21 = .ok (.aload_n 0, 1) := by decide +kernel
theorem dX3_trialFits_22 : decode cX3_trialFits 22 = .ok (.getfield 15, 3) := by decide +kernel
theorem dX3_trialFits_25 : decode cX3_trialFits 25 = .ok (.iload_n 1, 1) := by decide +kernel
theorem dX3_trialFits_26 : decode cX3_trialFits 26 = .ok (.iaload, 1) := by decide +kernel
theorem dX3_trialFits_27 : decode cX3_trialFits 27 = .ok (.aload_n 0, 1) := by decide +kernel
theorem dX3_trialFits_28 : decode cX3_trialFits 28 = .ok (.getfield 47, 3) := by decide +kernel
theorem dX3_trialFits_31 : decode cX3_trialFits 31 = .ok (.getfield 60, 3) := by decide +kernel
theorem dX3_trialFits_34 : decode cX3_trialFits 34 = .ok (.if_icmp .ge 31, 3) := by decide +kernel
theorem dX3_trialFits_37 : decode cX3_trialFits 37 = .ok (.aload_n 0, 1) := by decide +kernel
theorem dX3_trialFits_38 : decode cX3_trialFits 38 = .ok (.getfield 50, 3) := by decide +kernel
theorem dX3_trialFits_41 : decode cX3_trialFits 41 = .ok (.aload_n 0, 1) := by decide +kernel
theorem dX3_trialFits_42 : decode cX3_trialFits 42 = .ok (.getfield 15, 3) := by decide +kernel
theorem dX3_trialFits_45 : decode cX3_trialFits 45 = .ok (.iload_n 1, 1) := by decide +kernel
theorem dX3_trialFits_46 : decode cX3_trialFits 46 = .ok (.iaload, 1) := by decide +kernel
theorem dX3_trialFits_47 : decode cX3_trialFits 47 = .ok (.aload_n 0, 1) := by decide +kernel
theorem dX3_trialFits_48 : decode cX3_trialFits 48 = .ok (.getfield 9, 3) := by decide +kernel
theorem dX3_trialFits_51 : decode cX3_trialFits 51 = .ok (.iload_n 1, 1) := by decide +kernel
theorem dX3_trialFits_52 : decode cX3_trialFits 52 = .ok (.iaload, 1) := by decide +kernel
theorem dX3_trialFits_53 : decode cX3_trialFits 53 = .ok (.invokevirtual 63, 3) := by decide +kernel
theorem dX3_trialFits_56 : decode cX3_trialFits 56 = .ok (.aload_n 0, 1) := by decide +kernel
theorem dX3_trialFits_57 : decode cX3_trialFits 57 = .ok (.getfield 18, 3) := by decide +kernel
theorem dX3_trialFits_60 : decode cX3_trialFits 60 = .ok (.iload_n 1, 1) := by decide +kernel
theorem dX3_trialFits_61 : decode cX3_trialFits 61 = .ok (.iaload, 1) := by decide +kernel
theorem dX3_trialFits_62 : decode cX3_trialFits 62 = .ok (.if_icmp .eq 5, 3) := by decide +kernel
theorem dX3_trialFits_65 : decode cX3_trialFits 65 = .ok (.iconst 0, 1) := by decide +kernel
theorem dX3_trialFits_66 : decode cX3_trialFits 66 = .ok (.ireturn, 1) := by decide +kernel
theorem dX3_trialFits_67 : decode cX3_trialFits 67 = .ok (.iinc 1 1, 3) := by decide +kernel
theorem dX3_trialFits_70 : decode cX3_trialFits 70 = .ok (.goto (-57), 3) := by decide +kernel
theorem dX3_trialFits_73 : decode cX3_trialFits 73 = .ok (.iconst 1, 1) := by decide +kernel
theorem dX3_trialFits_74 : decode cX3_trialFits 74 = .ok (.ireturn, 1) := by decide +kernel
theorem dX3_answersThatNeverWere_0 : decode cX3_answersThatNeverWere 0 = .ok (.aload_n 0, 1) := by decide +kernel
theorem dX3_answersThatNeverWere_1 : decode cX3_answersThatNeverWere 1 = .ok (.getfield 47, 3) := by decide +kernel
theorem dX3_answersThatNeverWere_4 : decode cX3_answersThatNeverWere 4 = .ok (.aload_n 0, 1) := by decide +kernel
theorem dX3_answersThatNeverWere_5 : decode cX3_answersThatNeverWere 5 = .ok (.getfield 43, 3) := by decide +kernel
theorem dX3_answersThatNeverWere_8 : decode cX3_answersThatNeverWere 8 = .ok (.invokevirtual 67, 3) := by decide +kernel
theorem dX3_answersThatNeverWere_11 : decode cX3_answersThatNeverWere 11 = .ok (.iconst 0, 1) := by decide +kernel
theorem dX3_answersThatNeverWere_12 : decode cX3_answersThatNeverWere 12 = .ok (.istore_n 1, 1) := by decide +kernel
theorem dX3_answersThatNeverWere_13 : decode cX3_answersThatNeverWere 13 = .ok (.iconst 0, 1) := by decide +kernel
theorem dX3_answersThatNeverWere_14 : decode cX3_answersThatNeverWere 14 = .ok (.istore_n 2, 1) := by decide +kernel
theorem dX3_answersThatNeverWere_15 : decode cX3_answersThatNeverWere 15 = .ok (.iload_n 2, 1) := by decide +kernel
theorem dX3_answersThatNeverWere_16 : decode cX3_answersThatNeverWere 16 = .ok (.aload_n 0, 1) := by decide +kernel
theorem dX3_answersThatNeverWere_17 : decode cX3_answersThatNeverWere 17 = .ok (.getfield 43, 3) := by decide +kernel
theorem dX3_answersThatNeverWere_20 : decode cX3_answersThatNeverWere 20 = .ok (.getfield 70, 3) := by decide +kernel
theorem dX3_answersThatNeverWere_23 : decode cX3_answersThatNeverWere 23 = .ok (.getfield 74, 3) := by decide +kernel
theorem dX3_answersThatNeverWere_26 : decode cX3_answersThatNeverWere 26 = .ok (.if_icmp .ge 32, 3) := by decide +kernel
theorem dX3_answersThatNeverWere_29 : decode cX3_answersThatNeverWere 29 = .ok (.aload_n 0, 1) := by decide +kernel
theorem dX3_answersThatNeverWere_30 : decode cX3_answersThatNeverWere 30 = .ok (.getfield 47, 3) := by decide +kernel
theorem dX3_answersThatNeverWere_33 : decode cX3_answersThatNeverWere 33 = .ok (.iconst 1, 1) := by decide +kernel
theorem dX3_answersThatNeverWere_34 : decode cX3_answersThatNeverWere 34 = .ok (.iload_n 2, 1) := by decide +kernel
theorem dX3_answersThatNeverWere_35 : decode cX3_answersThatNeverWere 35 = .ok (.ishl, 1) := by decide +kernel
theorem dX3_answersThatNeverWere_36 : decode cX3_answersThatNeverWere 36 = .ok (.putfield 77, 3) := by decide +kernel
theorem dX3_answersThatNeverWere_39 : decode cX3_answersThatNeverWere 39 = .ok (.aload_n 0, 1) := by decide +kernel
theorem dX3_answersThatNeverWere_40 : decode cX3_answersThatNeverWere 40 = .ok (.invokevirtual 80, 3) := by decide +kernel
theorem dX3_answersThatNeverWere_43 : decode cX3_answersThatNeverWere 43 = .ok (.ifCond .eq 9, 3) := by decide +kernel
theorem dX3_answersThatNeverWere_46 : decode cX3_answersThatNeverWere 46 = .ok (.iload_n 1, 1) := by decide +kernel
theorem dX3_answersThatNeverWere_47 : decode cX3_answersThatNeverWere 47 = .ok (.iconst 1, 1) := by decide +kernel
theorem dX3_answersThatNeverWere_48 : decode cX3_answersThatNeverWere 48 = .ok (.iload_n 2, 1) := by decide +kernel
theorem dX3_answersThatNeverWere_49 : decode cX3_answersThatNeverWere 49 = .ok (.ishl, 1) := by decide +kernel
theorem dX3_answersThatNeverWere_50 : decode cX3_answersThatNeverWere 50 = .ok (.ior, 1) := by decide +kernel
theorem dX3_answersThatNeverWere_51 : decode cX3_answersThatNeverWere 51 = .ok (.istore_n 1, 1) := by decide +kernel
theorem dX3_answersThatNeverWere_52 : decode cX3_answersThatNeverWere 52 = .ok (.iinc 2 1, 3) := by decide +kernel
theorem dX3_answersThatNeverWere_55 : decode cX3_answersThatNeverWere 55 = .ok (.goto (-40), 3) := by decide +kernel
theorem dX3_answersThatNeverWere_58 : decode cX3_answersThatNeverWere 58 = .ok (.iload_n 1, 1) := by decide +kernel
theorem dX3_answersThatNeverWere_59 : decode cX3_answersThatNeverWere 59 = .ok (.ireturn, 1) := by decide +kernel
theorem dX3_sortsOf_0 : decode cX3_sortsOf 0 = .ok (.aload_n 0, 1) := by decide +kernel
theorem dX3_sortsOf_1 : decode cX3_sortsOf 1 = .ok (.getfield 47, 3) := by decide +kernel
theorem dX3_sortsOf_4 : decode cX3_sortsOf 4 = .ok (.aload_n 0, 1) := by decide +kernel
theorem dX3_sortsOf_5 : decode cX3_sortsOf 5 = .ok (.getfield 43, 3) := by decide +kernel
theorem dX3_sortsOf_8 : decode cX3_sortsOf 8 = .ok (.invokevirtual 67, 3) := by decide +kernel
theorem dX3_sortsOf_11 : decode cX3_sortsOf 11 = .ok (.iconst 0, 1) := by decide +kernel
theorem dX3_sortsOf_12 : decode cX3_sortsOf 12 = .ok (.istore_n 2, 1) := by decide +kernel
theorem dX3_sortsOf_13 : decode cX3_sortsOf 13 = .ok (.aload_n 0, 1) := by decide +kernel
theorem dX3_sortsOf_14 : decode cX3_sortsOf 14 = .ok (.iconst 0, 1) := by decide +kernel
theorem dX3_sortsOf_15 : decode cX3_sortsOf 15 = .ok (.putfield 27, 3) := by decide +kernel
theorem dX3_sortsOf_18 : decode cX3_sortsOf 18 = .ok (.iconst 0, 1) := by decide +kernel
theorem dX3_sortsOf_19 : decode cX3_sortsOf 19 = .ok (.istore_n 3, 1) := by decide +kernel
theorem dX3_sortsOf_20 : decode cX3_sortsOf 20 = .ok (.iload_n 3, 1) := by decide +kernel
theorem dX3_sortsOf_21 : decode cX3_sortsOf 21 = .ok (.iconst 3, 1) := by decide +kernel
theorem dX3_sortsOf_22 : decode cX3_sortsOf 22 = .ok (.if_icmp .ge 78, 3) := by decide +kernel
theorem dX3_sortsOf_25 : decode cX3_sortsOf 25 = .ok (.aload_n 0, 1) := by decide +kernel
theorem dX3_sortsOf_26 : decode cX3_sortsOf 26 = .ok (.getfield 47, 3) := by decide +kernel
theorem dX3_sortsOf_29 : decode cX3_sortsOf 29 = .ok (.getfield 84, 3) := by decide +kernel
theorem dX3_sortsOf_32 : decode cX3_sortsOf 32 = .ok (.iload_n 1, 1) := by decide +kernel
theorem dX3_sortsOf_33 : decode cX3_sortsOf 33 = .ok (.iload_n 3, 1) := by decide +kernel
theorem dX3_sortsOf_34 : decode cX3_sortsOf 34 = .ok (.iastore, 1) := by decide +kernel
theorem dX3_sortsOf_35 : decode cX3_sortsOf 35 = .ok (.aload_n 0, 1) := by decide +kernel
theorem dX3_sortsOf_36 : decode cX3_sortsOf 36 = .ok (.invokevirtual 80, 3) := by decide +kernel
theorem dX3_sortsOf_39 : decode cX3_sortsOf 39 = .ok (.ifCond .eq 55, 3) := by decide +kernel
theorem dX3_sortsOf_42 : decode cX3_sortsOf 42 = .ok (.iload_n 2, 1) := by decide +kernel
theorem dX3_sortsOf_43 : decode cX3_sortsOf 43 = .ok (.iconst 1, 1) := by decide +kernel
theorem dX3_sortsOf_44 : decode cX3_sortsOf 44 = .ok (.iload_n 3, 1) := by decide +kernel
theorem dX3_sortsOf_45 : decode cX3_sortsOf 45 = .ok (.ishl, 1) := by decide +kernel
theorem dX3_sortsOf_46 : decode cX3_sortsOf 46 = .ok (.ior, 1) := by decide +kernel
theorem dX3_sortsOf_47 : decode cX3_sortsOf 47 = .ok (.istore_n 2, 1) := by decide +kernel
theorem dX3_sortsOf_48 : decode cX3_sortsOf 48 = .ok (.aload_n 0, 1) := by decide +kernel
theorem dX3_sortsOf_49 : decode cX3_sortsOf 49 = .ok (.getfield 21, 3) := by decide +kernel
theorem dX3_sortsOf_52 : decode cX3_sortsOf 52 = .ok (.aload_n 0, 1) := by decide +kernel
theorem dX3_sortsOf_53 : decode cX3_sortsOf 53 = .ok (.getfield 27, 3) := by decide +kernel
theorem dX3_sortsOf_56 : decode cX3_sortsOf 56 = .ok (.aload_n 0, 1) := by decide +kernel
theorem dX3_sortsOf_57 : decode cX3_sortsOf 57 = .ok (.getfield 50, 3) := by decide +kernel
theorem dX3_sortsOf_60 : decode cX3_sortsOf 60 = .ok (.getfield 87, 3) := by decide +kernel
theorem dX3_sortsOf_63 : decode cX3_sortsOf 63 = .ok (.iload_n 1, 1) := by decide +kernel
theorem dX3_sortsOf_64 : decode cX3_sortsOf 64 = .ok (.iaload, 1) := by decide +kernel
theorem dX3_sortsOf_65 : decode cX3_sortsOf 65 = .ok (.iastore, 1) := by decide +kernel
theorem dX3_sortsOf_66 : decode cX3_sortsOf 66 = .ok (.aload_n 0, 1) := by decide +kernel
theorem dX3_sortsOf_67 : decode cX3_sortsOf 67 = .ok (.getfield 24, 3) := by decide +kernel
theorem dX3_sortsOf_70 : decode cX3_sortsOf 70 = .ok (.aload_n 0, 1) := by decide +kernel
theorem dX3_sortsOf_71 : decode cX3_sortsOf 71 = .ok (.getfield 27, 3) := by decide +kernel
theorem dX3_sortsOf_74 : decode cX3_sortsOf 74 = .ok (.aload_n 0, 1) := by decide +kernel
theorem dX3_sortsOf_75 : decode cX3_sortsOf 75 = .ok (.getfield 50, 3) := by decide +kernel
theorem dX3_sortsOf_78 : decode cX3_sortsOf 78 = .ok (.getfield 88, 3) := by decide +kernel
theorem dX3_sortsOf_81 : decode cX3_sortsOf 81 = .ok (.iload_n 1, 1) := by decide +kernel
theorem dX3_sortsOf_82 : decode cX3_sortsOf 82 = .ok (.iaload, 1) := by decide +kernel
theorem dX3_sortsOf_83 : decode cX3_sortsOf 83 = .ok (.iastore, 1) := by decide +kernel
theorem dX3_sortsOf_84 : decode cX3_sortsOf 84 = .ok (.aload_n 0, 1) := by decide +kernel
theorem dX3_sortsOf_85 : decode cX3_sortsOf 85 = .ok (.dup, 1) := by decide +kernel
theorem dX3_sortsOf_86 : decode cX3_sortsOf 86 = .ok (.getfield 27, 3) := by decide +kernel
theorem dX3_sortsOf_89 : decode cX3_sortsOf 89 = .ok (.iconst 1, 1) := by decide +kernel
theorem dX3_sortsOf_90 : decode cX3_sortsOf 90 = .ok (.iadd, 1) := by decide +kernel
theorem dX3_sortsOf_91 : decode cX3_sortsOf 91 = .ok (.putfield 27, 3) := by decide +kernel
theorem dX3_sortsOf_94 : decode cX3_sortsOf 94 = .ok (.iinc 3 1, 3) := by decide +kernel
theorem dX3_sortsOf_97 : decode cX3_sortsOf 97 = .ok (.goto (-77), 3) := by decide +kernel
theorem dX3_sortsOf_100 : decode cX3_sortsOf 100 = .ok (.iload_n 2, 1) := by decide +kernel
theorem dX3_sortsOf_101 : decode cX3_sortsOf 101 = .ok (.ireturn, 1) := by decide +kernel
theorem dX3_strengthsOf_0 : decode cX3_strengthsOf 0 = .ok (.aload_n 0, 1) := by decide +kernel
theorem dX3_strengthsOf_1 : decode cX3_strengthsOf 1 = .ok (.getfield 47, 3) := by decide +kernel
theorem dX3_strengthsOf_4 : decode cX3_strengthsOf 4 = .ok (.aload_n 0, 1) := by decide +kernel
theorem dX3_strengthsOf_5 : decode cX3_strengthsOf 5 = .ok (.getfield 43, 3) := by decide +kernel
theorem dX3_strengthsOf_8 : decode cX3_strengthsOf 8 = .ok (.invokevirtual 67, 3) := by decide +kernel
theorem dX3_strengthsOf_11 : decode cX3_strengthsOf 11 = .ok (.aload_n 0, 1) := by decide +kernel
theorem dX3_strengthsOf_12 : decode cX3_strengthsOf 12 = .ok (.iconst 0, 1) := by decide +kernel
theorem dX3_strengthsOf_13 : decode cX3_strengthsOf 13 = .ok (.putfield 34, 3) := by decide +kernel
theorem dX3_strengthsOf_16 : decode cX3_strengthsOf 16 = .ok (.aload_n 0, 1) := by decide +kernel
theorem dX3_strengthsOf_17 : decode cX3_strengthsOf 17 = .ok (.iconst (-1), 1) := by decide +kernel
theorem dX3_strengthsOf_18 : decode cX3_strengthsOf 18 = .ok (.putfield 37, 3) := by decide +kernel
theorem dX3_strengthsOf_21 : decode cX3_strengthsOf 21 = .ok (.aload_n 0, 1) := by decide +kernel
theorem dX3_strengthsOf_22 : decode cX3_strengthsOf 22 = .ok (.iconst (-1), 1) := by decide +kernel
theorem dX3_strengthsOf_23 : decode cX3_strengthsOf 23 = .ok (.putfield 40, 3) := by decide +kernel
theorem dX3_strengthsOf_26 : decode cX3_strengthsOf 26 = .ok (.iconst 0, 1) := by decide +kernel
theorem dX3_strengthsOf_27 : decode cX3_strengthsOf 27 = .ok (.istore_n 2, 1) := by decide +kernel
theorem dX3_strengthsOf_28 : decode cX3_strengthsOf 28 = .ok (.iconst 0, 1) := by decide +kernel
theorem dX3_strengthsOf_29 : decode cX3_strengthsOf 29 = .ok (.istore_n 3, 1) := by decide +kernel
theorem dX3_strengthsOf_30 : decode cX3_strengthsOf 30 = .ok (.iload_n 3, 1) := by decide +kernel
theorem dX3_strengthsOf_31 : decode cX3_strengthsOf 31 = .ok (.bipush 100, 2) := by decide +kernel
theorem dX3_strengthsOf_33 : decode cX3_strengthsOf 33 = .ok (.if_icmp .ge 96, 3) := by decide +kernel
theorem dX3_strengthsOf_36 : decode cX3_strengthsOf 36 = .ok (.iload_n 2, 1) := by decide +kernel
theorem dX3_strengthsOf_37 : decode cX3_strengthsOf 37 = .ok (.bipush 100, 2) := by decide +kernel
theorem dX3_strengthsOf_39 : decode cX3_strengthsOf 39 = .ok (.if_icmp .ge 90, 3) := by decide +kernel
theorem dX3_strengthsOf_42 : decode cX3_strengthsOf 42 = .ok (.aload_n 0, 1) := by decide +kernel
theorem dX3_strengthsOf_43 : decode cX3_strengthsOf 43 = .ok (.getfield 47, 3) := by decide +kernel
theorem dX3_strengthsOf_46 : decode cX3_strengthsOf 46 = .ok (.getfield 91, 3) := by decide +kernel
theorem dX3_strengthsOf_49 : decode cX3_strengthsOf 49 = .ok (.iload_n 1, 1) := by decide +kernel
theorem dX3_strengthsOf_50 : decode cX3_strengthsOf 50 = .ok (.iload_n 2, 1) := by decide +kernel
theorem dX3_strengthsOf_51 : decode cX3_strengthsOf 51 = .ok (.iastore, 1) := by decide +kernel
theorem dX3_strengthsOf_52 : decode cX3_strengthsOf 52 = .ok (.aload_n 0, 1) := by decide +kernel
theorem dX3_strengthsOf_53 : decode cX3_strengthsOf 53 = .ok (.invokevirtual 80, 3) := by decide +kernel
theorem dX3_strengthsOf_56 : decode cX3_strengthsOf 56 = .ok (.istore 4, 2) := by decide +kernel
theorem dX3_strengthsOf_58 : decode cX3_strengthsOf 58 = .ok (.bipush 100, 2) := by decide +kernel
theorem dX3_strengthsOf_60 : decode cX3_strengthsOf 60 = .ok (.aload_n 0, 1) := by decide +kernel
theorem dX3_strengthsOf_61 : decode cX3_strengthsOf 61 = .ok (.getfield 50, 3) := by decide +kernel
theorem dX3_strengthsOf_64 : decode cX3_strengthsOf 64 = .ok (.getfield 94, 3) := by decide +kernel
theorem dX3_strengthsOf_67 : decode cX3_strengthsOf 67 = .ok (.iload_n 1, 1) := by decide +kernel
theorem dX3_strengthsOf_68 : decode cX3_strengthsOf 68 = .ok (.iaload, 1) := by decide +kernel
theorem dX3_strengthsOf_69 : decode cX3_strengthsOf 69 = .ok (.invokestatic 97, 3) := by decide +kernel
theorem dX3_strengthsOf_72 : decode cX3_strengthsOf 72 = .ok (.istore 5, 2) := by decide +kernel
theorem dX3_strengthsOf_74 : decode cX3_strengthsOf 74 = .ok (.iload 4, 2) := by decide +kernel
theorem dX3_strengthsOf_76 : decode cX3_strengthsOf 76 = .ok (.ifCond .eq 44, 3) := by decide +kernel
theorem dX3_strengthsOf_79 : decode cX3_strengthsOf 79 = .ok (.aload_n 0, 1) := by decide +kernel
theorem dX3_strengthsOf_80 : decode cX3_strengthsOf 80 = .ok (.aload_n 0, 1) := by decide +kernel
theorem dX3_strengthsOf_81 : decode cX3_strengthsOf 81 = .ok (.getfield 37, 3) := by decide +kernel
theorem dX3_strengthsOf_84 : decode cX3_strengthsOf 84 = .ok (.iconst (-1), 1) := by decide +kernel
theorem dX3_strengthsOf_85 : decode cX3_strengthsOf 85 = .ok (.if_icmp .ne 7, 3) := by decide +kernel
theorem dX3_strengthsOf_88 : decode cX3_strengthsOf 88 = .ok (.iload_n 2, 1) := by decide +kernel
theorem dX3_strengthsOf_89 : decode cX3_strengthsOf 89 = .ok (.goto 7, 3) := by decide +kernel
theorem dX3_strengthsOf_92 : decode cX3_strengthsOf 92 = .ok (.aload_n 0, 1) := by decide +kernel
theorem dX3_strengthsOf_93 : decode cX3_strengthsOf 93 = .ok (.getfield 37, 3) := by decide +kernel
theorem dX3_strengthsOf_96 : decode cX3_strengthsOf 96 = .ok (.putfield 37, 3) := by decide +kernel
theorem dX3_strengthsOf_99 : decode cX3_strengthsOf 99 = .ok (.aload_n 0, 1) := by decide +kernel
theorem dX3_strengthsOf_100 : decode cX3_strengthsOf 100 = .ok (.iload 5, 2) := by decide +kernel
theorem dX3_strengthsOf_102 : decode cX3_strengthsOf 102 = .ok (.iconst 1, 1) := by decide +kernel
theorem dX3_strengthsOf_103 : decode cX3_strengthsOf 103 = .ok (.isub, 1) := by decide +kernel
theorem dX3_strengthsOf_104 : decode cX3_strengthsOf 104 = .ok (.putfield 40, 3) := by decide +kernel
theorem dX3_strengthsOf_107 : decode cX3_strengthsOf 107 = .ok (.aload_n 0, 1) := by decide +kernel
theorem dX3_strengthsOf_108 : decode cX3_strengthsOf 108 = .ok (.dup, 1) := by decide +kernel
theorem dX3_strengthsOf_109 : decode cX3_strengthsOf 109 = .ok (.getfield 34, 3) := by decide +kernel
theorem dX3_strengthsOf_112 : decode cX3_strengthsOf 112 = .ok (.iload 5, 2) := by decide +kernel
theorem dX3_strengthsOf_114 : decode cX3_strengthsOf 114 = .ok (.iload_n 2, 1) := by decide +kernel
theorem dX3_strengthsOf_115 : decode cX3_strengthsOf 115 = .ok (.isub, 1) := by decide +kernel
theorem dX3_strengthsOf_116 : decode cX3_strengthsOf 116 = .ok (.iadd, 1) := by decide +kernel
theorem dX3_strengthsOf_117 : decode cX3_strengthsOf 117 = .ok (.putfield 34, 3) := by decide +kernel
theorem dX3_strengthsOf_120 : decode cX3_strengthsOf 120 = .ok (.iload 5, 2) := by decide +kernel
theorem dX3_strengthsOf_122 : decode cX3_strengthsOf 122 = .ok (.istore_n 2, 1) := by decide +kernel
theorem dX3_strengthsOf_123 : decode cX3_strengthsOf 123 = .ok (.iinc 3 1, 3) := by decide +kernel
theorem dX3_strengthsOf_126 : decode cX3_strengthsOf 126 = .ok (.goto (-96), 3) := by decide +kernel
theorem dX3_strengthsOf_129 : decode cX3_strengthsOf 129 = .ok (.return_, 1) := by decide +kernel
theorem dX3_hourToLook_0 : decode cX3_hourToLook 0 = .ok (.iconst 0, 1) := by decide +kernel
theorem dX3_hourToLook_1 : decode cX3_hourToLook 1 = .ok (.istore_n 1, 1) := by decide +kernel
theorem dX3_hourToLook_2 : decode cX3_hourToLook 2 = .ok (.iconst 4, 1) := by decide +kernel
theorem dX3_hourToLook_3 : decode cX3_hourToLook 3 = .ok (.istore_n 2, 1) := by decide +kernel
theorem dX3_hourToLook_4 : decode cX3_hourToLook 4 = .ok (.iconst 0, 1) := by decide +kernel
theorem dX3_hourToLook_5 : decode cX3_hourToLook 5 = .ok (.istore_n 3, 1) := by decide +kernel
theorem dX3_hourToLook_6 : decode cX3_hourToLook 6 = .ok (.iload_n 3, 1) := by decide +kernel
theorem dX3_hourToLook_7 : decode cX3_hourToLook 7 = .ok (.bipush 40, 2) := by decide +kernel
theorem dX3_hourToLook_9 : decode cX3_hourToLook 9 = .ok (.if_icmp .ge 27, 3) := by decide +kernel
theorem dX3_hourToLook_12 : decode cX3_hourToLook 12 = .ok (.aload_n 0, 1) := by decide +kernel
theorem dX3_hourToLook_13 : decode cX3_hourToLook 13 = .ok (.iload_n 3, 1) := by decide +kernel
theorem dX3_hourToLook_14 : decode cX3_hourToLook 14 = .ok (.invokevirtual 102, 3) := by decide +kernel
theorem dX3_hourToLook_17 : decode cX3_hourToLook 17 = .ok (.istore 4, 2) := by decide +kernel
theorem dX3_hourToLook_19 : decode cX3_hourToLook 19 = .ok (.iload 4, 2) := by decide +kernel
theorem dX3_hourToLook_21 : decode cX3_hourToLook 21 = .ok (.iload_n 2, 1) := by decide +kernel
theorem dX3_hourToLook_22 : decode cX3_hourToLook 22 = .ok (.if_icmp .ge 8, 3) := by decide +kernel
theorem dX3_hourToLook_25 : decode cX3_hourToLook 25 = .ok (.iload 4, 2) := by decide +kernel
theorem dX3_hourToLook_27 : decode cX3_hourToLook 27 = .ok (.istore_n 2, 1) := by decide +kernel
theorem dX3_hourToLook_28 : decode cX3_hourToLook 28 = .ok (.iload_n 3, 1) := by decide +kernel
theorem dX3_hourToLook_29 : decode cX3_hourToLook 29 = .ok (.istore_n 1, 1) := by decide +kernel
theorem dX3_hourToLook_30 : decode cX3_hourToLook 30 = .ok (.iinc 3 1, 3) := by decide +kernel
theorem dX3_hourToLook_33 : decode cX3_hourToLook 33 = .ok (.goto (-27), 3) := by decide +kernel
theorem dX3_hourToLook_36 : decode cX3_hourToLook 36 = .ok (.iload_n 1, 1) := by decide +kernel
theorem dX3_hourToLook_37 : decode cX3_hourToLook 37 = .ok (.ireturn, 1) := by decide +kernel
theorem dX3_mostAlike_0 : decode cX3_mostAlike 0 = .ok (.iconst 0, 1) := by decide +kernel
theorem dX3_mostAlike_1 : decode cX3_mostAlike 1 = .ok (.istore_n 2, 1) := by decide +kernel
theorem dX3_mostAlike_2 : decode cX3_mostAlike 2 = .ok (.iconst 0, 1) := by decide +kernel
theorem dX3_mostAlike_3 : decode cX3_mostAlike 3 = .ok (.istore_n 3, 1) := by decide +kernel
theorem dX3_mostAlike_4 : decode cX3_mostAlike 4 = .ok (.iload_n 3, 1) := by decide +kernel
theorem dX3_mostAlike_5 : decode cX3_mostAlike 5 = .ok (.aload_n 0, 1) := by decide +kernel
theorem dX3_mostAlike_6 : decode cX3_mostAlike 6 = .ok (.getfield 27, 3) := by decide +kernel
theorem dX3_mostAlike_9 : decode cX3_mostAlike 9 = .ok (.if_icmp .ge 56, 3) := by decide +kernel
theorem dX3_mostAlike_12 : decode cX3_mostAlike 12 = .ok (.iconst 0, 1) := by decide +kernel
theorem dX3_mostAlike_13 : decode cX3_mostAlike 13 = .ok (.istore 4, 2) := by decide +kernel
theorem dX3_mostAlike_15 : decode cX3_mostAlike 15 = .ok (.iconst 0, 1) := by decide +kernel
theorem dX3_mostAlike_16 : decode cX3_mostAlike 16 = .ok (.istore 5, 2) := by decide +kernel
theorem dX3_mostAlike_18 : decode cX3_mostAlike 18 = .ok (.iload 5, 2) := by decide +kernel
theorem dX3_mostAlike_20 : decode cX3_mostAlike 20 = .ok (.aload_n 0, 1) := by decide +kernel
theorem dX3_mostAlike_21 : decode cX3_mostAlike 21 = .ok (.getfield 27, 3) := by decide +kernel
theorem dX3_mostAlike_24 : decode cX3_mostAlike 24 = .ok (.if_icmp .ge 28, 3) := by decide +kernel
theorem dX3_mostAlike_27 : decode cX3_mostAlike 27 = .ok (.aload_n 0, 1) := by decide +kernel
theorem dX3_mostAlike_28 : decode cX3_mostAlike 28 = .ok (.iload_n 3, 1) := by decide +kernel
theorem dX3_mostAlike_29 : decode cX3_mostAlike 29 = .ok (.iload_n 1, 1) := by decide +kernel
theorem dX3_mostAlike_30 : decode cX3_mostAlike 30 = .ok (.invokevirtual 106, 3) := by decide +kernel
theorem dX3_mostAlike_33 : decode cX3_mostAlike 33 = .ok (.aload_n 0, 1) := by decide +kernel
theorem dX3_mostAlike_34 : decode cX3_mostAlike 34 = .ok (.iload 5, 2) := by decide +kernel
theorem dX3_mostAlike_36 : decode cX3_mostAlike 36 = .ok (.iload_n 1, 1) := by decide +kernel
theorem dX3_mostAlike_37 : decode cX3_mostAlike 37 = .ok (.invokevirtual 106, 3) := by decide +kernel
theorem dX3_mostAlike_40 : decode cX3_mostAlike 40 = .ok (.if_icmp .ne 6, 3) := by decide +kernel
theorem dX3_mostAlike_43 : decode cX3_mostAlike 43 = .ok (.iinc 4 1, 3) := by decide +kernel
theorem dX3_mostAlike_46 : decode cX3_mostAlike 46 = .ok (.iinc 5 1, 3) := by decide +kernel
theorem dX3_mostAlike_49 : decode cX3_mostAlike 49 = .ok (.goto (-31), 3) := by decide +kernel
theorem dX3_mostAlike_52 : decode cX3_mostAlike 52 = .ok (.iload_n 2, 1) := by decide +kernel
theorem dX3_mostAlike_53 : decode cX3_mostAlike 53 = .ok (.iload 4, 2) := by decide +kernel
theorem dX3_mostAlike_55 : decode cX3_mostAlike 55 = .ok (.invokestatic 109, 3) := by decide +kernel
theorem dX3_mostAlike_58 : decode cX3_mostAlike 58 = .ok (.istore_n 2, 1) := by decide +kernel
theorem dX3_mostAlike_59 : decode cX3_mostAlike 59 = .ok (.iinc 3 1, 3) := by decide +kernel
theorem dX3_mostAlike_62 : decode cX3_mostAlike 62 = .ok (.goto (-58), 3) := by decide +kernel
theorem dX3_mostAlike_65 : decode cX3_mostAlike 65 = .ok (.iload_n 2, 1) := by decide +kernel
theorem dX3_mostAlike_66 : decode cX3_mostAlike 66 = .ok (.ireturn, 1) := by decide +kernel
theorem dX3_placeOfFitting_0 : decode cX3_placeOfFitting 0 = .ok (.aload_n 0, 1) := by decide +kernel
theorem dX3_placeOfFitting_1 : decode cX3_placeOfFitting 1 = .ok (.getfield 24, 3) := by decide +kernel
theorem dX3_placeOfFitting_4 : decode cX3_placeOfFitting 4 = .ok (.iload_n 1, 1) := by decide +kernel
theorem dX3_placeOfFitting_5 : decode cX3_placeOfFitting 5 = .ok (.iaload, 1) := by decide +kernel
theorem dX3_placeOfFitting_6 : decode cX3_placeOfFitting 6 = .ok (.iconst (-1), 1) := by decide +kernel
theorem dX3_placeOfFitting_7 : decode cX3_placeOfFitting 7 = .ok (.if_icmp .eq 22, 3) := by decide +kernel
theorem dX3_placeOfFitting_10 : decode cX3_placeOfFitting 10 = .ok (.aload_n 0, 1) := by decide +kernel
theorem dX3_placeOfFitting_11 : decode cX3_placeOfFitting 11 = .ok (.getfield 24, 3) := by decide +kernel
theorem dX3_placeOfFitting_14 : decode cX3_placeOfFitting 14 = .ok (.iload_n 1, 1) := by decide +kernel
theorem dX3_placeOfFitting_15 : decode cX3_placeOfFitting 15 = .ok (.iaload, 1) := by decide +kernel
theorem dX3_placeOfFitting_16 : decode cX3_placeOfFitting 16 = .ok (.iload_n 2, 1) := by decide +kernel
theorem dX3_placeOfFitting_17 : decode cX3_placeOfFitting 17 = .ok (.if_icmp .gt 12, 3) := by decide +kernel
theorem dX3_placeOfFitting_20 : decode cX3_placeOfFitting 20 = .ok (.aload_n 0, 1) := by decide +kernel
theorem dX3_placeOfFitting_21 : decode cX3_placeOfFitting 21 = .ok (.getfield 21, 3) := by decide +kernel
theorem dX3_placeOfFitting_24 : decode cX3_placeOfFitting 24 = .ok (.iload_n 1, 1) := by decide +kernel
theorem dX3_placeOfFitting_25 : decode cX3_placeOfFitting 25 = .ok (.iaload, 1) := by decide +kernel
theorem dX3_placeOfFitting_26 : decode cX3_placeOfFitting 26 = .ok (.goto 4, 3) := by decide +kernel
theorem dX3_placeOfFitting_29 : decode cX3_placeOfFitting 29 = .ok (.iconst (-1), 1) := by decide +kernel
theorem dX3_placeOfFitting_30 : decode cX3_placeOfFitting 30 = .ok (.ireturn, 1) := by decide +kernel
theorem dX4_init_0 : decode cX4_init 0 = .ok (.aload_n 0, 1) := by decide +kernel
theorem dX4_init_1 : decode cX4_init 1 = .ok (.invokespecial 3, 3) := by decide +kernel
theorem dX4_init_4 : decode cX4_init 4 = .ok (.aload_n 0, 1) := by decide +kernel
theorem dX4_init_5 : decode cX4_init 5 = .ok (.bipush 8, 2) := by decide +kernel
theorem dX4_init_7 : decode cX4_init 7 = .ok (.newarray .int, 2) := by decide +kernel
theorem dX4_init_9 : decode cX4_init 9 = .ok (.putfield 9, 3) := by decide +kernel
theorem dX4_init_12 : decode cX4_init 12 = .ok (.aload_n 0, 1) := by decide +kernel
theorem dX4_init_13 : decode cX4_init 13 = .ok (.bipush 64, 2) := by decide +kernel
theorem dX4_init_15 : decode cX4_init 15 = .ok (.newarray .int, 2) := by decide +kernel
theorem dX4_init_17 : decode cX4_init 17 = .ok (.putfield 15, 3) := by decide +kernel
theorem dX4_init_20 : decode cX4_init 20 = .ok (.aload_n 0, 1) := by decide +kernel
theorem dX4_init_21 : decode cX4_init 21 = .ok (.bipush 64, 2) := by decide +kernel
theorem dX4_init_23 : decode cX4_init 23 = .ok (.newarray .int, 2) := by decide +kernel
theorem dX4_init_25 : decode cX4_init 25 = .ok (.putfield 18, 3) := by decide +kernel
theorem dX4_init_28 : decode cX4_init 28 = .ok (.aload_n 0, 1) := by decide +kernel
theorem dX4_init_29 : decode cX4_init 29 = .ok (.bipush 64, 2) := by decide +kernel
theorem dX4_init_31 : decode cX4_init 31 = .ok (.newarray .int, 2) := by decide +kernel
theorem dX4_init_33 : decode cX4_init 33 = .ok (.putfield 21, 3) := by decide +kernel
theorem dX4_init_36 : decode cX4_init 36 = .ok (.aload_n 0, 1) := by decide +kernel
theorem dX4_init_37 : decode cX4_init 37 = .ok (.bipush 64, 2) := by decide +kernel
theorem dX4_init_39 : decode cX4_init 39 = .ok (.newarray .int, 2) := by decide +kernel
theorem dX4_init_41 : decode cX4_init 41 = .ok (.putfield 24, 3) := by decide +kernel
theorem dX4_init_44 : decode cX4_init 44 = .ok (.return_, 1) := by decide +kernel
theorem dX4_clear_0 : decode cX4_clear 0 = .ok (.aload_n 0, 1) := by decide +kernel
theorem dX4_clear_1 : decode cX4_clear 1 = .ok (.getfield 9, 3) := by decide +kernel
theorem dX4_clear_4 : decode cX4_clear 4 = .ok (.iload_n 1, 1) := by decide +kernel
theorem dX4_clear_5 : decode cX4_clear 5 = .ok (.iconst 0, 1) := by decide +kernel
theorem dX4_clear_6 : decode cX4_clear 6 = .ok (.iastore, 1) := by decide +kernel
theorem dX4_clear_7 : decode cX4_clear 7 = .ok (.return_, 1) := by decide +kernel
theorem dX4_note_0 : decode cX4_note 0 = .ok (.aload_n 0, 1) := by decide +kernel
theorem dX4_note_1 : decode cX4_note 1 = .ok (.getfield 9, 3) := by decide +kernel
theorem dX4_note_4 : decode cX4_note 4 = .ok (.iload_n 1, 1) := by decide +kernel
theorem dX4_note_5 : decode cX4_note 5 = .ok (.iaload, 1) := by decide +kernel
theorem dX4_note_6 : decode cX4_note 6 = .ok (.bipush 8, 2) := by decide +kernel
theorem dX4_note_8 : decode cX4_note 8 = .ok (.if_icmp .lt 4, 3) := by decide +kernel
theorem dX4_note_11 : decode cX4_note 11 = .ok (.return_, 1) := by decide +kernel
theorem dX4_note_12 : decode cX4_note 12 = .ok (.iload_n 1, 1) := by decide +kernel
theorem dX4_note_13 : decode cX4_note 13 = .ok (.bipush 8, 2) := by decide +kernel
theorem dX4_note_15 : decode cX4_note 15 = .ok (.imul, 1) := by decide +kernel
theorem dX4_note_16 : decode cX4_note 16 = .ok (.aload_n 0, 1) := by decide +kernel
theorem dX4_note_17 : decode cX4_note 17 = .ok (.getfield 9, 3) := by decide +kernel
theorem dX4_note_20 : decode cX4_note 20 = .ok (.iload_n 1, 1) := by decide +kernel
theorem dX4_note_21 : decode cX4_note 21 = .ok (.iaload, 1) := by decide +kernel
theorem dX4_note_22 : decode cX4_note 22 = .ok (.iadd, 1) := by decide +kernel
theorem dX4_note_23 : decode cX4_note 23 = .ok (.istore 6, 2) := by decide +kernel
theorem dX4_note_25 : decode cX4_note 25 = .ok (.aload_n 0, 1) := by decide +kernel
theorem dX4_note_26 : decode cX4_note 26 = .ok (.getfield 15, 3) := by decide +kernel
theorem dX4_note_29 : decode cX4_note 29 = .ok (.iload 6, 2) := by decide +kernel
theorem dX4_note_31 : decode cX4_note 31 = .ok (.iload_n 2, 1) := by decide +kernel
theorem dX4_note_32 : decode cX4_note 32 = .ok (.iastore, 1) := by decide +kernel
theorem dX4_note_33 : decode cX4_note 33 = .ok (.aload_n 0, 1) := by decide +kernel
theorem dX4_note_34 : decode cX4_note 34 = .ok (.getfield 18, 3) := by decide +kernel
theorem dX4_note_37 : decode cX4_note 37 = .ok (.iload 6, 2) := by decide +kernel
theorem dX4_note_39 : decode cX4_note 39 = .ok (.iload_n 3, 1) := by decide +kernel
theorem dX4_note_40 : decode cX4_note 40 = .ok (.iastore, 1) := by decide +kernel
theorem dX4_note_41 : decode cX4_note 41 = .ok (.aload_n 0, 1) := by decide +kernel
theorem dX4_note_42 : decode cX4_note 42 = .ok (.getfield 21, 3) := by decide +kernel
theorem dX4_note_45 : decode cX4_note 45 = .ok (.iload 6, 2) := by decide +kernel
theorem dX4_note_47 : decode cX4_note 47 = .ok (.iload 4, 2) := by decide +kernel
theorem dX4_note_49 : decode cX4_note 49 = .ok (.iastore, 1) := by decide +kernel
theorem dX4_note_50 : decode cX4_note 50 = .ok (.aload_n 0, 1) := by decide +kernel
theorem dX4_note_51 : decode cX4_note 51 = .ok (.getfield 24, 3) := by decide +kernel
theorem dX4_note_54 : decode cX4_note 54 = .ok (.iload 6, 2) := by decide +kernel
theorem dX4_note_56 : decode cX4_note 56 = .ok (.iload 5, 2) := by decide +kernel
theorem dX4_note_58 : decode cX4_note 58 = .ok (.iastore, 1) := by decide +kernel
theorem dX4_note_59 : decode cX4_note 59 = .ok (.aload_n 0, 1) := by decide +kernel
theorem dX4_note_60 : decode cX4_note 60 = .ok (.getfield 9, 3) := by decide +kernel
theorem dX4_note_63 : decode cX4_note 63 = .ok (.iload_n 1, 1) := by decide +kernel
theorem dX4_note_64 : decode cX4_note 64 = .ok (.dup2, 1) := by decide +kernel
theorem dX4_note_65 : decode cX4_note 65 = .ok (.iaload, 1) := by decide +kernel
theorem dX4_note_66 : decode cX4_note 66 = .ok (.iconst 1, 1) := by decide +kernel
theorem dX4_note_67 : decode cX4_note 67 = .ok (.iadd, 1) := by decide +kernel
theorem dX4_note_68 : decode cX4_note 68 = .ok (.iastore, 1) := by decide +kernel
theorem dX4_note_69 : decode cX4_note 69 = .ok (.return_, 1) := by decide +kernel
theorem dX4_lastStep_0 : decode cX4_lastStep 0 = .ok (.iconst (-1), 1) := by decide +kernel
theorem dX4_lastStep_1 : decode cX4_lastStep 1 = .ok (.istore_n 3, 1) := by decide +kernel
theorem dX4_lastStep_2 : decode cX4_lastStep 2 = .ok (.iconst 0, 1) := by decide +kernel
theorem dX4_lastStep_3 : decode cX4_lastStep 3 = .ok (.istore 4, 2) := by decide +kernel
theorem dX4_lastStep_5 : decode cX4_lastStep 5 = .ok (.iload 4, 2) := by decide +kernel
theorem dX4_lastStep_7 : decode cX4_lastStep 7 = .ok (.aload_n 0, 1) := by decide +kernel
theorem dX4_lastStep_8 : decode cX4_lastStep 8 = .ok (.getfield 9, 3) := by decide +kernel
theorem dX4_lastStep_11 : decode cX4_lastStep 11 = .ok (.iload_n 1, 1) := by decide +kernel
theorem dX4_lastStep_12 : decode cX4_lastStep 12 = .ok (.iaload, 1) := by decide +kernel
theorem dX4_lastStep_13 : decode cX4_lastStep 13 = .ok (.if_icmp .ge 33, 3) := by decide +kernel
theorem dX4_lastStep_16 : decode cX4_lastStep 16 = .ok (.aload_n 0, 1) := by decide +kernel
theorem dX4_lastStep_17 : decode cX4_lastStep 17 = .ok (.getfield 15, 3) := by decide +kernel
theorem dX4_lastStep_20 : decode cX4_lastStep 20 = .ok (.iload_n 1, 1) := by decide +kernel
theorem dX4_lastStep_21 : decode cX4_lastStep 21 = .ok (.bipush 8, 2) := by decide +kernel
theorem dX4_lastStep_23 : decode cX4_lastStep 23 = .ok (.imul, 1) := by decide +kernel
theorem dX4_lastStep_24 : decode cX4_lastStep 24 = .ok (.iload 4, 2) := by decide +kernel
theorem dX4_lastStep_26 : decode cX4_lastStep 26 = .ok (.iadd, 1) := by decide +kernel
theorem dX4_lastStep_27 : decode cX4_lastStep 27 = .ok (.iaload, 1) := by decide +kernel
theorem dX4_lastStep_28 : decode cX4_lastStep 28 = .ok (.iload_n 2, 1) := by decide +kernel
theorem dX4_lastStep_29 : decode cX4_lastStep 29 = .ok (.if_icmp .gt 11, 3) := by decide +kernel
theorem dX4_lastStep_32 : decode cX4_lastStep 32 = .ok (.iload_n 1, 1) := by decide +kernel
theorem dX4_lastStep_33 : decode cX4_lastStep 33 = .ok (.bipush 8, 2) := by decide +kernel
theorem dX4_lastStep_35 : decode cX4_lastStep 35 = .ok (.imul, 1) := by decide +kernel
theorem dX4_lastStep_36 : decode cX4_lastStep 36 = .ok (.iload 4, 2) := by decide +kernel
theorem dX4_lastStep_38 : decode cX4_lastStep 38 = .ok (.iadd, 1) := by decide +kernel
theorem dX4_lastStep_39 : decode cX4_lastStep 39 = .ok (.istore_n 3, 1) := by decide +kernel
theorem dX4_lastStep_40 : decode cX4_lastStep 40 = .ok (.iinc 4 1, 3) := by decide +kernel
theorem dX4_lastStep_43 : decode cX4_lastStep 43 = .ok (.goto (-38), 3) := by decide +kernel
theorem dX4_lastStep_46 : decode cX4_lastStep 46 = .ok (.iload_n 3, 1) := by decide +kernel
theorem dX4_lastStep_47 : decode cX4_lastStep 47 = .ok (.ireturn, 1) := by decide +kernel
end
section
theorem dX5_init_0 : decode cX5_init 0 = .ok (.aload_n 0, 1) := by decide +kernel
theorem dX5_init_1 : decode cX5_init 1 = .ok (.invokespecial 3, 3) := by decide +kernel
theorem dX5_init_4 : decode cX5_init 4 = .ok (.aload_n 0, 1) := by decide +kernel
theorem dX5_init_5 : decode cX5_init 5 = .ok (.new 9, 3) := by decide +kernel
theorem dX5_init_8 : decode cX5_init 8 = .ok (.dup, 1) := by decide +kernel
theorem dX5_init_9 : decode cX5_init 9 = .ok (.invokespecial 11, 3) := by decide +kernel
theorem dX5_init_12 : decode cX5_init 12 = .ok (.putfield 12, 3) := by decide +kernel
theorem dX5_init_15 : decode cX5_init 15 = .ok (.aload_n 0, 1) := by decide +kernel
theorem dX5_init_16 : decode cX5_init 16 = .ok (.iconst (-1), 1) := by decide +kernel
theorem dX5_init_17 : decode cX5_init 17 = .ok (.putfield 18, 3) := by decide +kernel
theorem dX5_init_20 : decode cX5_init 20 = .ok (.aload_n 0, 1) := by decide +kernel
theorem dX5_init_21 : decode cX5_init 21 = .ok (.iconst (-1), 1) := by decide +kernel
theorem dX5_init_22 : decode cX5_init 22 = .ok (.putfield 22, 3) := by decide +kernel
theorem dX5_init_25 : decode cX5_init 25 = .ok (.aload_n 0, 1) := by decide +kernel
theorem dX5_init_26 : decode cX5_init 26 = .ok (.iconst (-1), 1) := by decide +kernel
theorem dX5_init_27 : decode cX5_init 27 = .ok (.putfield 25, 3) := by decide +kernel
theorem dX5_init_30 : decode cX5_init 30 = .ok (.aload_n 0, 1) := by decide +kernel
theorem dX5_init_31 : decode cX5_init 31 = .ok (.aload_n 1, 1) := by decide +kernel
theorem dX5_init_32 : decode cX5_init 32 = .ok (.putfield 28, 3) := by decide +kernel
theorem dX5_init_35 : decode cX5_init 35 = .ok (.aload_n 0, 1) := by decide +kernel
theorem dX5_init_36 : decode cX5_init 36 = .ok (.aload_n 2, 1) := by decide +kernel
theorem dX5_init_37 : decode cX5_init 37 = .ok (.putfield 32, 3) := by decide +kernel
theorem dX5_init_40 : decode cX5_init 40 = .ok (.aload_n 0, 1) := by decide +kernel
theorem dX5_init_41 : decode cX5_init 41 = .ok (.aload_n 3, 1) := by decide +kernel
theorem dX5_init_42 : decode cX5_init 42 = .ok (.putfield 35, 3) := by decide +kernel
theorem dX5_init_45 : decode cX5_init 45 = .ok (.return_, 1) := by decide +kernel
theorem dX5_leastStrength_0 : decode cX5_leastStrength 0 = .ok (.aload_n 0, 1) := by decide +kernel
theorem dX5_leastStrength_1 : decode cX5_leastStrength 1 = .ok (.getfield 32, 3) := by decide +kernel
theorem dX5_leastStrength_4 : decode cX5_leastStrength 4 = .ok (.aload_n 0, 1) := by decide +kernel
theorem dX5_leastStrength_5 : decode cX5_leastStrength 5 = .ok (.getfield 28, 3) := by decide +kernel
theorem dX5_leastStrength_8 : decode cX5_leastStrength 8 = .ok (.invokevirtual 39, 3) := by decide +kernel
theorem dX5_leastStrength_11 : decode cX5_leastStrength 11 = .ok (.iconst 0, 1) := by decide +kernel
theorem dX5_leastStrength_12 : decode cX5_leastStrength 12 = .ok (.istore_n 2, 1) := by decide +kernel
theorem dX5_leastStrength_13 : decode cX5_leastStrength 13 = .ok (.iconst 0, 1) := by decide +kernel
theorem dX5_leastStrength_14 : decode cX5_leastStrength 14 = .ok (.istore_n 3, 1) := by decide +kernel
theorem dX5_leastStrength_15 : decode cX5_leastStrength 15 = .ok (.iload_n 3, 1) := by decide +kernel
theorem dX5_leastStrength_16 : decode cX5_leastStrength 16 = .ok (.bipush 100, 2) := by decide +kernel
theorem dX5_leastStrength_18 : decode cX5_leastStrength 18 = .ok (.if_icmp .ge 61, 3) := by decide +kernel
theorem dX5_leastStrength_21 : decode cX5_leastStrength 21 = .ok (.iload_n 2, 1) := by decide +kernel
theorem dX5_leastStrength_22 : decode cX5_leastStrength 22 = .ok (.bipush 100, 2) := by decide +kernel
theorem dX5_leastStrength_24 : decode cX5_leastStrength 24 = .ok (.if_icmp .ge 55, 3) := by decide +kernel
theorem dX5_leastStrength_27 : decode cX5_leastStrength 27 = .ok (.aload_n 0, 1) := by decide +kernel
theorem dX5_leastStrength_28 : decode cX5_leastStrength 28 = .ok (.getfield 32, 3) := by decide +kernel
theorem dX5_leastStrength_31 : decode cX5_leastStrength 31 = .ok (.getfield 45, 3) := by decide +kernel
theorem dX5_leastStrength_34 : decode cX5_leastStrength 34 = .ok (.iload_n 1, 1) := by decide +kernel
theorem dX5_leastStrength_35 : decode cX5_leastStrength 35 = .ok (.iload_n 2, 1) := by decide +kernel
theorem dX5_leastStrength_36 : decode cX5_leastStrength 36 = .ok (.iastore, 1) := by decide +kernel
theorem dX5_leastStrength_37 : decode cX5_leastStrength 37 = .ok (.aload_n 0, 1) := by decide +kernel
theorem dX5_leastStrength_38 : decode cX5_leastStrength 38 = .ok (.getfield 35, 3) := by decide +kernel
theorem dX5_leastStrength_41 : decode cX5_leastStrength 41 = .ok (.aload_n 0, 1) := by decide +kernel
theorem dX5_leastStrength_42 : decode cX5_leastStrength 42 = .ok (.getfield 32, 3) := by decide +kernel
theorem dX5_leastStrength_45 : decode cX5_leastStrength 45 = .ok (.invokevirtual 49, 3) := by decide +kernel
theorem dX5_leastStrength_48 : decode cX5_leastStrength 48 = .ok (.aload_n 0, 1) := by decide +kernel
theorem dX5_leastStrength_49 : decode cX5_leastStrength 49 = .ok (.getfield 35, 3) := by decide +kernel
theorem dX5_leastStrength_52 : decode cX5_leastStrength 52 = .ok (.getfield 54, 3) := by decide +kernel
theorem dX5_leastStrength_55 : decode cX5_leastStrength 55 = .ok (.iload_n 1, 1) := by decide +kernel
theorem dX5_leastStrength_56 : decode cX5_leastStrength 56 = .ok (.iaload, 1) := by decide +kernel
theorem dX5_leastStrength_57 : decode cX5_leastStrength 57 = .ok (.iconst 2, 1) := by decide +kernel
theorem dX5_leastStrength_58 : decode cX5_leastStrength 58 = .ok (.if_icmp .ne 5, 3) := by decide +kernel
theorem dX5_leastStrength_61 : decode cX5_leastStrength 61 = .ok (.iload_n 2, 1) := by decide +kernel
theorem dX5_leastStrength_62 : decode cX5_leastStrength 62 = .ok (.ireturn, 1) := by decide +kernel
theorem dX5_leastStrength_63 : decode cX5_leastStrength 63 = .ok (.aload_n 0, 1) := by decide +kernel
theorem dX5_leastStrength_64 : decode cX5_leastStrength 64 = .ok (.getfield 35, 3) := by decide +kernel
theorem dX5_leastStrength_67 : decode cX5_leastStrength 67 = .ok (.getfield 57, 3) := by decide +kernel
theorem dX5_leastStrength_70 : decode cX5_leastStrength 70 = .ok (.iload_n 1, 1) := by decide +kernel
theorem dX5_leastStrength_71 : decode cX5_leastStrength 71 = .ok (.iaload, 1) := by decide +kernel
theorem dX5_leastStrength_72 : decode cX5_leastStrength 72 = .ok (.istore_n 2, 1) := by decide +kernel
theorem dX5_leastStrength_73 : decode cX5_leastStrength 73 = .ok (.iinc 3 1, 3) := by decide +kernel
theorem dX5_leastStrength_76 : decode cX5_leastStrength 76 = .ok (.goto (-61), 3) := by decide +kernel
theorem dX5_leastStrength_79 : decode cX5_leastStrength 79 = .ok (.iconst (-1), 1) := by decide +kernel
theorem dX5_leastStrength_80 : decode cX5_leastStrength 80 = .ok (.ireturn, 1) := by decide +kernel
theorem dX5_swapQuestions_0 : decode cX5_swapQuestions 0 = .ok (.aload_n 0, 1) := by decide +kernel
theorem dX5_swapQuestions_1 : decode cX5_swapQuestions 1 = .ok (.invokevirtual 60, 3) := by decide +kernel
theorem dX5_swapQuestions_4 : decode cX5_swapQuestions 4 = .ok (.iconst 0, 1) := by decide +kernel
theorem dX5_swapQuestions_5 : decode cX5_swapQuestions 5 = .ok (.istore_n 1, 1) := by decide +kernel
theorem dX5_swapQuestions_6 : decode cX5_swapQuestions 6 = .ok (.iload_n 1, 1) := by decide +kernel
theorem dX5_swapQuestions_7 : decode cX5_swapQuestions 7 = .ok (.aload_n 0, 1) := by decide +kernel
theorem dX5_swapQuestions_8 : decode cX5_swapQuestions 8 = .ok (.getfield 28, 3) := by decide +kernel
theorem dX5_swapQuestions_11 : decode cX5_swapQuestions 11 = .ok (.getfield 63, 3) := by decide +kernel
theorem dX5_swapQuestions_14 : decode cX5_swapQuestions 14 = .ok (.if_icmp .ge 54, 3) := by decide +kernel
theorem dX5_swapQuestions_17 : decode cX5_swapQuestions 17 = .ok (.iload_n 1, 1) := by decide +kernel
theorem dX5_swapQuestions_18 : decode cX5_swapQuestions 18 = .ok (.iconst 1, 1) := by decide +kernel
theorem dX5_swapQuestions_19 : decode cX5_swapQuestions 19 = .ok (.iadd, 1) := by decide +kernel
theorem dX5_swapQuestions_20 : decode cX5_swapQuestions 20 = .ok (.istore_n 2, 1) := by decide +kernel
theorem dX5_swapQuestions_21 : decode cX5_swapQuestions 21 = .ok (.iload_n 2, 1) := by decide +kernel
theorem dX5_swapQuestions_22 : decode cX5_swapQuestions 22 = .ok (.aload_n 0, 1) := by decide +kernel
theorem dX5_swapQuestions_23 : decode cX5_swapQuestions 23 = .ok (.getfield 28, 3) := by decide +kernel
theorem dX5_swapQuestions_26 : decode cX5_swapQuestions 26 = .ok (.getfield 63, 3) := by decide +kernel
theorem dX5_swapQuestions_29 : decode cX5_swapQuestions 29 = .ok (.if_icmp .ge 33, 3) := by decide +kernel
theorem dX5_swapQuestions_32 : decode cX5_swapQuestions 32 = .ok (.aload_n 0, 1) := by decide +kernel
theorem dX5_swapQuestions_33 : decode cX5_swapQuestions 33 = .ok (.getfield 32, 3) := by decide +kernel
theorem dX5_swapQuestions_36 : decode cX5_swapQuestions 36 = .ok (.iload_n 1, 1) := by decide +kernel
theorem dX5_swapQuestions_37 : decode cX5_swapQuestions 37 = .ok (.iload_n 2, 1) := by decide +kernel
theorem dX5_swapQuestions_38 : decode cX5_swapQuestions 38 = .ok (.invokevirtual 66, 3) := by decide +kernel
theorem dX5_swapQuestions_41 : decode cX5_swapQuestions 41 = .ok (.aload_n 0, 1) := by decide +kernel
theorem dX5_swapQuestions_42 : decode cX5_swapQuestions 42 = .ok (.iload_n 1, 1) := by decide +kernel
theorem dX5_swapQuestions_43 : decode cX5_swapQuestions 43 = .ok (.iload_n 2, 1) := by decide +kernel
theorem dX5_swapQuestions_44 : decode cX5_swapQuestions 44 = .ok (.invokevirtual 70, 3) := by decide +kernel
theorem dX5_swapQuestions_47 : decode cX5_swapQuestions 47 = .ok (.aload_n 0, 1) := by decide +kernel
theorem dX5_swapQuestions_48 : decode cX5_swapQuestions 48 = .ok (.getfield 32, 3) := by decide +kernel
theorem dX5_swapQuestions_51 : decode cX5_swapQuestions 51 = .ok (.iload_n 1, 1) := by decide +kernel
theorem dX5_swapQuestions_52 : decode cX5_swapQuestions 52 = .ok (.iload_n 2, 1) := by decide +kernel
theorem dX5_swapQuestions_53 : decode cX5_swapQuestions 53 = .ok (.invokevirtual 66, 3) := by decide +kernel
theorem dX5_swapQuestions_56 : decode cX5_swapQuestions 56 = .ok (.iinc 2 1, 3) := by decide +kernel
theorem dX5_swapQuestions_59 : decode cX5_swapQuestions 59 = .ok (.goto (-38), 3) := by decide +kernel
theorem dX5_swapQuestions_62 : decode cX5_swapQuestions 62 = .ok (.iinc 1 1, 3) := by decide +kernel
theorem dX5_swapQuestions_65 : decode cX5_swapQuestions 65 = .ok (.goto (-59), 3) := by decide +kernel
theorem dX5_swapQuestions_68 : decode cX5_swapQuestions 68 = .ok (.return_, 1) := by decide +kernel
theorem dX5_postpone_0 : decode cX5_postpone 0 = .ok (.aload_n 0, 1) := by decide +kernel
theorem dX5_postpone_1 : decode cX5_postpone 1 = .ok (.invokevirtual 60, 3) := by decide +kernel
theorem dX5_postpone_4 : decode cX5_postpone 4 = .ok (.iconst 0, 1) := by decide +kernel
theorem dX5_postpone_5 : decode cX5_postpone 5 = .ok (.istore_n 2, 1) := by decide +kernel
theorem dX5_postpone_6 : decode cX5_postpone 6 = .ok (.iload_n 2, 1) := by decide +kernel
theorem dX5_postpone_7 : decode cX5_postpone 7 = .ok (.bipush 10, 2) := by decide +kernel
theorem dX5_postpone_9 : decode cX5_postpone 9 = .ok (.if_icmp .ge 25, 3) := by decide +kernel
theorem dX5_postpone_12 : decode cX5_postpone 12 = .ok (.aload_n 0, 1) := by decide +kernel
theorem dX5_postpone_13 : decode cX5_postpone 13 = .ok (.getfield 32, 3) := by decide +kernel
theorem dX5_postpone_16 : decode cX5_postpone 16 = .ok (.getfield 73, 3) := by decide +kernel
theorem dX5_postpone_19 : decode cX5_postpone 19 = .ok (.iload_n 1, 1) := by decide +kernel
theorem dX5_postpone_20 : decode cX5_postpone 20 = .ok (.iload_n 2, 1) := by decide +kernel
theorem dX5_postpone_21 : decode cX5_postpone 21 = .ok (.iastore, 1) := by decide +kernel
theorem dX5_postpone_22 : decode cX5_postpone 22 = .ok (.aload_n 0, 1) := by decide +kernel
theorem dX5_postpone_23 : decode cX5_postpone 23 = .ok (.iload_n 2, 1) := by decide +kernel
theorem dX5_postpone_24 : decode cX5_postpone 24 = .ok (.iconst (-1), 1) := by decide +kernel
theorem dX5_postpone_25 : decode cX5_postpone 25 = .ok (.invokevirtual 70, 3) := by decide +kernel
theorem dX5_postpone_28 : decode cX5_postpone 28 = .ok (.iinc 2 1, 3) := by decide +kernel
theorem dX5_postpone_31 : decode cX5_postpone 31 = .ok (.goto (-25), 3) := by decide +kernel
theorem dX5_postpone_34 : decode cX5_postpone 34 = .ok (.return_, 1) := by decide +kernel
theorem dX5_flatten_0 : decode cX5_flatten 0 = .ok (.aload_n 0, 1) := by decide +kernel
theorem dX5_flatten_1 : decode cX5_flatten 1 = .ok (.invokevirtual 60, 3) := by decide +kernel
theorem dX5_flatten_4 : decode cX5_flatten 4 = .ok (.aload_n 0, 1) := by decide +kernel
theorem dX5_flatten_5 : decode cX5_flatten 5 = .ok (.getfield 32, 3) := by decide +kernel
theorem dX5_flatten_8 : decode cX5_flatten 8 = .ok (.aload_n 0, 1) := by decide +kernel
theorem dX5_flatten_9 : decode cX5_flatten 9 = .ok (.getfield 12, 3) := by decide +kernel
theorem dX5_flatten_12 : decode cX5_flatten 12 = .ok (.putfield 76, 3) := by decide +kernel
theorem dX5_flatten_15 : decode cX5_flatten 15 = .ok (.iconst 0, 1) := by decide +kernel
theorem dX5_flatten_16 : decode cX5_flatten 16 = .ok (.istore_n 2, 1) := by decide +kernel
theorem dX5_flatten_17 : decode cX5_flatten 17 = .ok (.iload_n 2, 1) := by decide +kernel
theorem dX5_flatten_18 : decode cX5_flatten 18 = .ok (.aload_n 1, 1) := by decide +kernel
theorem dX5_flatten_19 : decode cX5_flatten 19 = .ok (.getfield 79, 3) := by decide +kernel
theorem dX5_flatten_22 : decode cX5_flatten 22 = .ok (.if_icmp .ge 24, 3) := by decide +kernel
theorem dX5_flatten_25 : decode cX5_flatten 25 = .ok (.aload_n 0, 1) := by decide +kernel
theorem dX5_flatten_26 : decode cX5_flatten 26 = .ok (.getfield 12, 3) := by decide +kernel
theorem dX5_flatten_29 : decode cX5_flatten 29 = .ok (.aload_n 1, 1) := by decide +kernel
theorem dX5_flatten_30 : decode cX5_flatten 30 = .ok (.iload_n 2, 1) := by decide +kernel
theorem dX5_flatten_31 : decode cX5_flatten 31 = .ok (.invokevirtual 84, 3) := by decide +kernel
theorem dX5_flatten_34 : decode cX5_flatten 34 = .ok (.aload_n 0, 1) := by decide +kernel
theorem dX5_flatten_35 : decode cX5_flatten 35 = .ok (.iload_n 2, 1) := by decide +kernel
theorem dX5_flatten_36 : decode cX5_flatten 36 = .ok (.iconst (-1), 1) := by decide +kernel
theorem dX5_flatten_37 : decode cX5_flatten 37 = .ok (.invokevirtual 70, 3) := by decide +kernel
theorem dX5_flatten_40 : decode cX5_flatten 40 = .ok (.iinc 2 1, 3) := by decide +kernel
theorem dX5_flatten_43 : decode cX5_flatten 43 = .ok (.goto (-26), 3) := by decide +kernel
theorem dX5_flatten_46 : decode cX5_flatten 46 = .ok (.return_, 1) := by decide +kernel
theorem dX5_begin_0 : decode cX5_begin 0 = .ok (.aload_n 0, 1) := by decide +kernel
theorem dX5_begin_1 : decode cX5_begin 1 = .ok (.getfield 32, 3) := by decide +kernel
theorem dX5_begin_4 : decode cX5_begin 4 = .ok (.aload_n 0, 1) := by decide +kernel
theorem dX5_begin_5 : decode cX5_begin 5 = .ok (.getfield 28, 3) := by decide +kernel
theorem dX5_begin_8 : decode cX5_begin 8 = .ok (.invokevirtual 39, 3) := by decide +kernel
theorem dX5_begin_11 : decode cX5_begin 11 = .ok (.aload_n 0, 1) := by decide +kernel
theorem dX5_begin_12 : decode cX5_begin 12 = .ok (.iconst (-1), 1) := by decide +kernel
theorem dX5_begin_13 : decode cX5_begin 13 = .ok (.putfield 18, 3) := by decide +kernel
theorem dX5_begin_16 : decode cX5_begin 16 = .ok (.aload_n 0, 1) := by decide +kernel
theorem dX5_begin_17 : decode cX5_begin 17 = .ok (.iconst (-1), 1) := by decide +kernel
theorem dX5_begin_18 : decode cX5_begin 18 = .ok (.putfield 22, 3) := by decide +kernel
theorem dX5_begin_21 : decode cX5_begin 21 = .ok (.aload_n 0, 1) := by decide +kernel
theorem dX5_begin_22 : decode cX5_begin 22 = .ok (.iconst (-1), 1) := by decide +kernel
theorem dX5_begin_23 : decode cX5_begin 23 = .ok (.putfield 25, 3) := by decide +kernel
theorem dX5_begin_26 : decode cX5_begin 26 = .ok (.return_, 1) := by decide +kernel
theorem dX5_weigh_0 : decode cX5_weigh 0 = .ok (.aload_n 0, 1) := by decide +kernel
theorem dX5_weigh_1 : decode cX5_weigh 1 = .ok (.getfield 35, 3) := by decide +kernel
theorem dX5_weigh_4 : decode cX5_weigh 4 = .ok (.aload_n 0, 1) := by decide +kernel
theorem dX5_weigh_5 : decode cX5_weigh 5 = .ok (.getfield 32, 3) := by decide +kernel
theorem dX5_weigh_8 : decode cX5_weigh 8 = .ok (.invokevirtual 49, 3) := by decide +kernel
theorem dX5_weigh_11 : decode cX5_weigh 11 = .ok (.aload_n 0, 1) := by decide +kernel
theorem dX5_weigh_12 : decode cX5_weigh 12 = .ok (.getfield 35, 3) := by decide +kernel
theorem dX5_weigh_15 : decode cX5_weigh 15 = .ok (.iconst 2, 1) := by decide +kernel
theorem dX5_weigh_16 : decode cX5_weigh 16 = .ok (.invokevirtual 88, 3) := by decide +kernel
theorem dX5_weigh_19 : decode cX5_weigh 19 = .ok (.istore_n 3, 1) := by decide +kernel
theorem dX5_weigh_20 : decode cX5_weigh 20 = .ok (.iload_n 3, 1) := by decide +kernel
theorem dX5_weigh_21 : decode cX5_weigh 21 = .ok (.aload_n 0, 1) := by decide +kernel
theorem dX5_weigh_22 : decode cX5_weigh 22 = .ok (.getfield 25, 3) := by decide +kernel
theorem dX5_weigh_25 : decode cX5_weigh 25 = .ok (.if_icmp .le 18, 3) := by decide +kernel
theorem dX5_weigh_28 : decode cX5_weigh 28 = .ok (.aload_n 0, 1) := by decide +kernel
theorem dX5_weigh_29 : decode cX5_weigh 29 = .ok (.iload_n 1, 1) := by decide +kernel
theorem dX5_weigh_30 : decode cX5_weigh 30 = .ok (.putfield 18, 3) := by decide +kernel
theorem dX5_weigh_33 : decode cX5_weigh 33 = .ok (.aload_n 0, 1) := by decide +kernel
theorem dX5_weigh_34 : decode cX5_weigh 34 = .ok (.iload_n 2, 1) := by decide +kernel
theorem dX5_weigh_35 : decode cX5_weigh 35 = .ok (.putfield 22, 3) := by decide +kernel
theorem dX5_weigh_38 : decode cX5_weigh 38 = .ok (.aload_n 0, 1) := by decide +kernel
theorem dX5_weigh_39 : decode cX5_weigh 39 = .ok (.iload_n 3, 1) := by decide +kernel
theorem dX5_weigh_40 : decode cX5_weigh 40 = .ok (.putfield 25, 3) := by decide +kernel
theorem dX5_weigh_43 : decode cX5_weigh 43 = .ok (.return_, 1) := by decide +kernel
theorem dX6_init_0 : decode cX6_init 0 = .ok (.aload_n 0, 1) := by decide +kernel
theorem dX6_init_1 : decode cX6_init 1 = .ok (.invokespecial 3, 3) := by decide +kernel
theorem dX6_init_4 : decode cX6_init 4 = .ok (.aload_n 0, 1) := by decide +kernel
theorem dX6_init_5 : decode cX6_init 5 = .ok (.iconst 0, 1) := by decide +kernel
theorem dX6_init_6 : decode cX6_init 6 = .ok (.putfield 9, 3) := by decide +kernel
theorem dX6_init_9 : decode cX6_init 9 = .ok (.aload_n 0, 1) := by decide +kernel
theorem dX6_init_10 : decode cX6_init 10 = .ok (.bipush 8, 2) := by decide +kernel
theorem dX6_init_12 : decode cX6_init 12 = .ok (.newarray .int, 2) := by decide +kernel
theorem dX6_init_14 : decode cX6_init 14 = .ok (.putfield 15, 3) := by decide +kernel
theorem dX6_init_17 : decode cX6_init 17 = .ok (.aload_n 0, 1) := by decide +kernel
theorem dX6_init_18 : decode cX6_init 18 = .ok (.bipush 8, 2) := by decide +kernel
theorem dX6_init_20 : decode cX6_init 20 = .ok (.newarray .int, 2) := by decide +kernel
theorem dX6_init_22 : decode cX6_init 22 = .ok (.putfield 19, 3) := by decide +kernel
theorem dX6_init_25 : decode cX6_init 25 = .ok (.aload_n 0, 1) := by decide +kernel
theorem dX6_init_26 : decode cX6_init 26 = .ok (.bipush 8, 2) := by decide +kernel
theorem dX6_init_28 : decode cX6_init 28 = .ok (.newarray .int, 2) := by decide +kernel
theorem dX6_init_30 : decode cX6_init 30 = .ok (.putfield 22, 3) := by decide +kernel
theorem dX6_init_33 : decode cX6_init 33 = .ok (.aload_n 0, 1) := by decide +kernel
theorem dX6_init_34 : decode cX6_init 34 = .ok (.bipush 8, 2) := by decide +kernel
theorem dX6_init_36 : decode cX6_init 36 = .ok (.newarray .int, 2) := by decide +kernel
theorem dX6_init_38 : decode cX6_init 38 = .ok (.putfield 25, 3) := by decide +kernel
theorem dX6_init_41 : decode cX6_init 41 = .ok (.aload_n 0, 1) := by decide +kernel
theorem dX6_init_42 : decode cX6_init 42 = .ok (.bipush 8, 2) := by decide +kernel
theorem dX6_init_44 : decode cX6_init 44 = .ok (.newarray .int, 2) := by decide +kernel
theorem dX6_init_46 : decode cX6_init 46 = .ok (.putfield 28, 3) := by decide +kernel
theorem dX6_init_49 : decode cX6_init 49 = .ok (.aload_n 0, 1) := by decide +kernel
theorem dX6_init_50 : decode cX6_init 50 = .ok (.bipush 8, 2) := by decide +kernel
theorem dX6_init_52 : decode cX6_init 52 = .ok (.newarray .int, 2) := by decide +kernel
theorem dX6_init_54 : decode cX6_init 54 = .ok (.putfield 31, 3) := by decide +kernel
theorem dX6_init_57 : decode cX6_init 57 = .ok (.aload_n 0, 1) := by decide +kernel
theorem dX6_init_58 : decode cX6_init 58 = .ok (.bipush 8, 2) := by decide +kernel
theorem dX6_init_60 : decode cX6_init 60 = .ok (.newarray .int, 2) := by decide +kernel
theorem dX6_init_62 : decode cX6_init 62 = .ok (.putfield 34, 3) := by decide +kernel
theorem dX6_init_65 : decode cX6_init 65 = .ok (.aload_n 0, 1) := by decide +kernel
theorem dX6_init_66 : decode cX6_init 66 = .ok (.bipush 8, 2) := by decide +kernel
theorem dX6_init_68 : decode cX6_init 68 = .ok (.newarray .int, 2) := by decide +kernel
theorem dX6_init_70 : decode cX6_init 70 = .ok (.putfield 37, 3) := by decide +kernel
theorem dX6_init_73 : decode cX6_init 73 = .ok (.aload_n 0, 1) := by decide +kernel
theorem dX6_init_74 : decode cX6_init 74 = .ok (.new 40, 3) := by decide +kernel
theorem dX6_init_77 : decode cX6_init 77 = .ok (.dup, 1) := by decide +kernel
theorem dX6_init_78 : decode cX6_init 78 = .ok (.invokespecial 42, 3) := by decide +kernel
theorem dX6_init_81 : decode cX6_init 81 = .ok (.putfield 43, 3) := by decide +kernel
theorem dX6_init_84 : decode cX6_init 84 = .ok (.aload_n 0, 1) := by decide +kernel
theorem dX6_init_85 : decode cX6_init 85 = .ok (.iconst (-1), 1) := by decide +kernel
theorem dX6_init_86 : decode cX6_init 86 = .ok (.putfield 47, 3) := by decide +kernel
theorem dX6_init_89 : decode cX6_init 89 = .ok (.aload_n 0, 1) := by decide +kernel
theorem dX6_init_90 : decode cX6_init 90 = .ok (.iconst (-1), 1) := by decide +kernel
theorem dX6_init_91 : decode cX6_init 91 = .ok (.putfield 50, 3) := by decide +kernel
theorem dX6_init_94 : decode cX6_init 94 = .ok (.return_, 1) := by decide +kernel
theorem dX6_play_0 : decode cX6_play 0 = .ok (.aload_n 0, 1) := by decide +kernel
theorem dX6_play_1 : decode cX6_play 1 = .ok (.aload_n 1, 1) := by decide +kernel
theorem dX6_play_2 : decode cX6_play 2 = .ok (.invokevirtual 53, 3) := by decide +kernel
theorem dX6_play_5 : decode cX6_play 5 = .ok (.aload_n 0, 1) := by decide +kernel
theorem dX6_play_6 : decode cX6_play 6 = .ok (.invokevirtual 57, 3) := by decide +kernel
theorem dX6_play_9 : decode cX6_play 9 = .ok (.istore_n 2, 1) := by decide +kernel
theorem dX6_play_10 : decode cX6_play 10 = .ok (.iconst 0, 1) := by decide +kernel
theorem dX6_play_11 : decode cX6_play 11 = .ok (.istore_n 3, 1) := by decide +kernel
theorem dX6_play_12 : decode cX6_play 12 = .ok (.iload_n 3, 1) := by decide +kernel
theorem dX6_play_13 : decode cX6_play 13 = .ok (.bipush 40, 2) := by decide +kernel
theorem dX6_play_15 : decode cX6_play 15 = .ok (.if_icmp .ge 62, 3) := by decide +kernel
theorem dX6_play_18 : decode cX6_play 18 = .ok (.iload_n 2, 1) := by decide +kernel
theorem dX6_play_19 : decode cX6_play 19 = .ok (.bipush 40, 2) := by decide +kernel
theorem dX6_play_21 : decode cX6_play 21 = .ok (.if_icmp .ge 56, 3) := by decide +kernel
theorem dX6_play_24 : decode cX6_play 24 = .ok (.aload_n 0, 1) := by decide +kernel
theorem dX6_play_25 : decode cX6_play 25 = .ok (.iload_n 2, 1) := by decide +kernel
theorem dX6_play_26 : decode cX6_play 26 = .ok (.invokevirtual 61, 3) := by decide +kernel
theorem dX6_play_29 : decode cX6_play 29 = .ok (.iconst 0, 1) := by decide +kernel
theorem dX6_play_30 : decode cX6_play 30 = .ok (.istore 4, 2) := by decide +kernel
theorem dX6_play_32 : decode cX6_play 32 = .ok (.iload 4, 2) := by decide +kernel
theorem dX6_play_34 : decode cX6_play 34 = .ok (.aload_n 0, 1) := by decide +kernel
theorem dX6_play_35 : decode cX6_play 35 = .ok (.getfield 9, 3) := by decide +kernel
theorem dX6_play_38 : decode cX6_play 38 = .ok (.if_icmp .ge 28, 3) := by decide +kernel
theorem dX6_play_41 : decode cX6_play 41 = .ok (.aload_n 0, 1) := by decide +kernel
theorem dX6_play_42 : decode cX6_play 42 = .ok (.getfield 15, 3) := by decide +kernel
theorem dX6_play_45 : decode cX6_play 45 = .ok (.iload 4, 2) := by decide +kernel
theorem dX6_play_47 : decode cX6_play 47 = .ok (.iaload, 1) := by decide +kernel
theorem dX6_play_48 : decode cX6_play 48 = .ok (.iload_n 2, 1) := by decide +kernel
theorem dX6_play_49 : decode cX6_play 49 = .ok (.if_icmp .ne 11, 3) := by decide +kernel
theorem dX6_play_52 : decode cX6_play 52 = .ok (.aload_n 0, 1) := by decide +kernel
theorem dX6_play_53 : decode cX6_play 53 = .ok (.aload_n 1, 1) := by decide +kernel
theorem dX6_play_54 : decode cX6_play 54 = .ok (.iload 4, 2) := by decide +kernel
theorem dX6_play_56 : decode cX6_play 56 = .ok (.iload_n 2, 1) := by decide +kernel
theorem dX6_play_57 : decode cX6_play 57 = .ok (.invokevirtual 65, 3) := by decide +kernel
theorem dX6_play_60 : decode cX6_play 60 = .ok (.iinc 4 1, 3) := by decide +kernel
theorem dX6_play_63 : decode cX6_play 63 = .ok (.goto (-31), 3) := by decide +kernel
theorem dX6_play_66 : decode cX6_play 66 = .ok (.aload_n 0, 1) := by decide +kernel
theorem dX6_play_67 : decode cX6_play 67 = .ok (.invokevirtual 57, 3) := by decide +kernel
theorem dX6_play_70 : decode cX6_play 70 = .ok (.istore_n 2, 1) := by decide +kernel
theorem dX6_play_71 : decode cX6_play 71 = .ok (.iinc 3 1, 3) := by decide +kernel
theorem dX6_play_74 : decode cX6_play 74 = .ok (.goto (-62), 3) := by decide +kernel
theorem dX6_play_77 : decode cX6_play 77 = .ok (.return_, 1) := by decide +kernel
theorem dX6_begin_0 : decode cX6_begin 0 = .ok (.aload_n 0, 1) := by decide +kernel
theorem dX6_begin_1 : decode cX6_begin 1 = .ok (.aload_n 1, 1) := by decide +kernel
theorem dX6_begin_2 : decode cX6_begin 2 = .ok (.getfield 69, 3) := by decide +kernel
theorem dX6_begin_5 : decode cX6_begin 5 = .ok (.putfield 9, 3) := by decide +kernel
theorem dX6_begin_8 : decode cX6_begin 8 = .ok (.aload_n 0, 1) := by decide +kernel
theorem dX6_begin_9 : decode cX6_begin 9 = .ok (.iconst (-1), 1) := by decide +kernel
theorem dX6_begin_10 : decode cX6_begin 10 = .ok (.putfield 47, 3) := by decide +kernel
theorem dX6_begin_13 : decode cX6_begin 13 = .ok (.aload_n 0, 1) := by decide +kernel
theorem dX6_begin_14 : decode cX6_begin 14 = .ok (.iconst (-1), 1) := by decide +kernel
theorem dX6_begin_15 : decode cX6_begin 15 = .ok (.putfield 50, 3) := by decide +kernel
theorem dX6_begin_18 : decode cX6_begin 18 = .ok (.iconst 0, 1) := by decide +kernel
theorem dX6_begin_19 : decode cX6_begin 19 = .ok (.istore_n 2, 1) := by decide +kernel
theorem dX6_begin_20 : decode cX6_begin 20 = .ok (.iload_n 2, 1) := by decide +kernel
theorem dX6_begin_21 : decode cX6_begin 21 = .ok (.bipush 8, 2) := by decide +kernel
theorem dX6_begin_23 : decode cX6_begin 23 = .ok (.if_icmp .ge 16, 3) := by decide +kernel
theorem dX6_begin_26 : decode cX6_begin 26 = .ok (.aload_n 0, 1) := by decide +kernel
theorem dX6_begin_27 : decode cX6_begin 27 = .ok (.getfield 25, 3) := by decide +kernel
theorem dX6_begin_30 : decode cX6_begin 30 = .ok (.iload_n 2, 1) := by decide +kernel
theorem dX6_begin_31 : decode cX6_begin 31 = .ok (.iconst 0, 1) := by decide +kernel
theorem dX6_begin_32 : decode cX6_begin 32 = .ok (.iastore, 1) := by decide +kernel
theorem dX6_begin_33 : decode cX6_begin 33 = .ok (.iinc 2 1, 3) := by decide +kernel
theorem dX6_begin_36 : decode cX6_begin 36 = .ok (.goto (-16), 3) := by decide +kernel
theorem dX6_begin_39 : decode cX6_begin 39 = .ok (.iconst 0, 1) := by decide +kernel
theorem dX6_begin_40 : decode cX6_begin 40 = .ok (.istore_n 2, 1) := by decide +kernel
theorem dX6_begin_41 : decode cX6_begin 41 = .ok (.iload_n 2, 1) := by decide +kernel
theorem dX6_begin_42 : decode cX6_begin 42 = .ok (.aload_n 0, 1) := by decide +kernel
theorem dX6_begin_43 : decode cX6_begin 43 = .ok (.getfield 9, 3) := by decide +kernel
theorem dX6_begin_46 : decode cX6_begin 46 = .ok (.if_icmp .ge 75, 3) := by decide +kernel
theorem dX6_begin_49 : decode cX6_begin 49 = .ok (.aload_n 0, 1) := by decide +kernel
theorem dX6_begin_50 : decode cX6_begin 50 = .ok (.getfield 15, 3) := by decide +kernel
theorem dX6_begin_53 : decode cX6_begin 53 = .ok (.iload_n 2, 1) := by decide +kernel
theorem dX6_begin_54 : decode cX6_begin 54 = .ok (.aload_n 1, 1) := by decide +kernel
theorem dX6_begin_55 : decode cX6_begin 55 = .ok (.getfield 72, 3) := by decide +kernel
theorem dX6_begin_58 : decode cX6_begin 58 = .ok (.iload_n 2, 1) := by decide +kernel
theorem dX6_begin_59 : decode cX6_begin 59 = .ok (.iaload, 1) := by decide +kernel
theorem dX6_begin_60 : decode cX6_begin 60 = .ok (.iastore, 1) := by decide +kernel
theorem dX6_begin_61 : decode cX6_begin 61 = .ok (.aload_n 0, 1) := by decide +kernel
theorem dX6_begin_62 : decode cX6_begin 62 = .ok (.getfield 28, 3) := by decide +kernel
theorem dX6_begin_65 : decode cX6_begin 65 = .ok (.iload_n 2, 1) := by decide +kernel
theorem dX6_begin_66 : decode cX6_begin 66 = .ok (.aload_n 1, 1) := by decide +kernel
theorem dX6_begin_67 : decode cX6_begin 67 = .ok (.getfield 75, 3) := by decide +kernel
theorem dX6_begin_70 : decode cX6_begin 70 = .ok (.iload_n 2, 1) := by decide +kernel
theorem dX6_begin_71 : decode cX6_begin 71 = .ok (.iaload, 1) := by decide +kernel
theorem dX6_begin_72 : decode cX6_begin 72 = .ok (.iastore, 1) := by decide +kernel
theorem dX6_begin_73 : decode cX6_begin 73 = .ok (.aload_n 0, 1) := by decide +kernel
theorem dX6_begin_74 : decode cX6_begin 74 = .ok (.getfield 19, 3) := by decide +kernel
theorem dX6_begin_77 : decode cX6_begin 77 = .ok (.iload_n 2, 1) := by decide +kernel
theorem dX6_begin_78 : decode cX6_begin 78 = .ok (.aload_n 1, 1) := by decide +kernel
theorem dX6_begin_79 : decode cX6_begin 79 = .ok (.getfield 78, 3) := by decide +kernel
theorem dX6_begin_82 : decode cX6_begin 82 = .ok (.iload_n 2, 1) := by decide +kernel
theorem dX6_begin_83 : decode cX6_begin 83 = .ok (.iaload, 1) := by decide +kernel
theorem dX6_begin_84 : decode cX6_begin 84 = .ok (.iastore, 1) := by decide +kernel
theorem dX6_begin_85 : decode cX6_begin 85 = .ok (.aload_n 0, 1) := by decide +kernel
theorem dX6_begin_86 : decode cX6_begin 86 = .ok (.getfield 31, 3) := by decide +kernel
theorem dX6_begin_89 : decode cX6_begin 89 = .ok (.iload_n 2, 1) := by decide +kernel
theorem dX6_begin_90 : decode cX6_begin 90 = .ok (.iconst 1, 1) := by decide +kernel
theorem dX6_begin_91 : decode cX6_begin 91 = .ok (.iastore, 1) := by decide +kernel
theorem dX6_begin_92 : decode cX6_begin 92 = .ok (.aload_n 0, 1) := by decide +kernel
theorem dX6_begin_93 : decode cX6_begin 93 = .ok (.getfield 34, 3) := by decide +kernel
theorem dX6_begin_96 : decode cX6_begin 96 = .ok (.iload_n 2, 1) := by decide +kernel
theorem dX6_begin_97 : decode cX6_begin 97 = .ok (.iconst (-1), 1) := by decide +kernel
theorem dX6_begin_98 : decode cX6_begin 98 = .ok (.iastore, 1) := by decide +kernel
theorem dX6_begin_99 : decode cX6_begin 99 = .ok (.aload_n 0, 1) := by decide +kernel
theorem dX6_begin_100 : decode cX6_begin 100 = .ok (.getfield 37, 3) := by decide +kernel
theorem dX6_begin_103 : decode cX6_begin 103 = .ok (.iload_n 2, 1) := by decide +kernel
theorem dX6_begin_104 : decode cX6_begin 104 = .ok (.bipush 100, 2) := by decide +kernel
theorem dX6_begin_106 : decode cX6_begin 106 = .ok (.iastore, 1) := by decide +kernel
theorem dX6_begin_107 : decode cX6_begin 107 = .ok (.aload_n 0, 1) := by decide +kernel
theorem dX6_begin_108 : decode cX6_begin 108 = .ok (.getfield 43, 3) := by decide +kernel
theorem dX6_begin_111 : decode cX6_begin 111 = .ok (.iload_n 2, 1) := by decide +kernel
theorem dX6_begin_112 : decode cX6_begin 112 = .ok (.invokevirtual 81, 3) := by decide +kernel
theorem dX6_begin_115 : decode cX6_begin 115 = .ok (.iinc 2 1, 3) := by decide +kernel
theorem dX6_begin_118 : decode cX6_begin 118 = .ok (.goto (-77), 3) := by decide +kernel
theorem dX6_begin_121 : decode cX6_begin 121 = .ok (.return_, 1) := by decide +kernel
theorem dX6_soonest_0 : decode cX6_soonest 0 = .ok (.sipush 1000, 3) := by decide +kernel
theorem dX6_soonest_3 : decode cX6_soonest 3 = .ok (.istore_n 1, 1) := by decide +kernel
theorem dX6_soonest_4 : decode cX6_soonest 4 = .ok (.iconst 0, 1) := by decide +kernel
theorem dX6_soonest_5 : decode cX6_soonest 5 = .ok (.istore_n 2, 1) := by decide +kernel
theorem dX6_soonest_6 : decode cX6_soonest 6 = .ok (.iload_n 2, 1) := by decide +kernel
theorem dX6_soonest_7 : decode cX6_soonest 7 = .ok (.aload_n 0, 1) := by decide +kernel
theorem dX6_soonest_8 : decode cX6_soonest 8 = .ok (.getfield 9, 3) := by decide +kernel
theorem dX6_soonest_11 : decode cX6_soonest 11 = .ok (.if_icmp .ge 20, 3) := by decide +kernel
theorem dX6_soonest_14 : decode cX6_soonest 14 = .ok (.iload_n 1, 1) := by decide +kernel
theorem dX6_soonest_15 : decode cX6_soonest 15 = .ok (.aload_n 0, 1) := by decide +kernel
theorem dX6_soonest_16 : decode cX6_soonest 16 = .ok (.getfield 15, 3) := by decide +kernel
theorem dX6_soonest_19 : decode cX6_soonest 19 = .ok (.iload_n 2, 1) := by decide +kernel
theorem dX6_soonest_20 : decode cX6_soonest 20 = .ok (.iaload, 1) := by decide +kernel
theorem dX6_soonest_21 : decode cX6_soonest 21 = .ok (.invokestatic 84, 3) := by decide +kernel
theorem dX6_soonest_24 : decode cX6_soonest 24 = .ok (.istore_n 1, 1) := by decide +kernel
theorem dX6_soonest_25 : decode cX6_soonest 25 = .ok (.iinc 2 1, 3) := by decide +kernel
theorem dX6_soonest_28 : decode cX6_soonest 28 = .ok (.goto (-22), 3) := by decide +kernel
theorem dX6_soonest_31 : decode cX6_soonest 31 = .ok (.iload_n 1, 1) := by decide +kernel
theorem dX6_soonest_32 : decode cX6_soonest 32 = .ok (.ireturn, 1) := by decide +kernel
theorem dX6_gather_0 : decode cX6_gather 0 = .ok (.iconst 0, 1) := by decide +kernel
theorem dX6_gather_1 : decode cX6_gather 1 = .ok (.istore_n 2, 1) := by decide +kernel
theorem dX6_gather_2 : decode cX6_gather 2 = .ok (.iload_n 2, 1) := by decide +kernel
theorem dX6_gather_3 : decode cX6_gather 3 = .ok (.bipush 8, 2) := by decide +kernel
theorem dX6_gather_5 : decode cX6_gather 5 = .ok (.if_icmp .ge 16, 3) := by decide +kernel
theorem dX6_gather_8 : decode cX6_gather 8 = .ok (.aload_n 0, 1) := by decide +kernel
theorem dX6_gather_9 : decode cX6_gather 9 = .ok (.getfield 22, 3) := by decide +kernel
theorem dX6_gather_12 : decode cX6_gather 12 = .ok (.iload_n 2, 1) := by decide +kernel
theorem dX6_gather_13 : decode cX6_gather 13 = .ok (.iconst 0, 1) := by decide +kernel
theorem dX6_gather_14 : decode cX6_gather 14 = .ok (.iastore, 1) := by decide +kernel
theorem dX6_gather_15 : decode cX6_gather 15 = .ok (.iinc 2 1, 3) := by decide +kernel
theorem dX6_gather_18 : decode cX6_gather 18 = .ok (.goto (-16), 3) := by decide +kernel
theorem dX6_gather_21 : decode cX6_gather 21 = .ok (.iconst 0, 1) := by decide +kernel
theorem dX6_gather_22 : decode cX6_gather 22 = .ok (.istore_n 2, 1) := by decide +kernel
theorem dX6_gather_23 : decode cX6_gather 23 = .ok (.iload_n 2, 1) := by decide +kernel
theorem dX6_gather_24 : decode cX6_gather 24 = .ok (.aload_n 0, 1) := by decide +kernel
theorem dX6_gather_25 : decode cX6_gather 25 = .ok (.getfield 9, 3) := by decide +kernel
theorem dX6_gather_28 : decode cX6_gather 28 = .ok (.if_icmp .ge 44, 3) := by decide +kernel
theorem dX6_gather_31 : decode cX6_gather 31 = .ok (.aload_n 0, 1) := by decide +kernel
theorem dX6_gather_32 : decode cX6_gather 32 = .ok (.getfield 15, 3) := by decide +kernel
theorem dX6_gather_35 : decode cX6_gather 35 = .ok (.iload_n 2, 1) := by decide +kernel
theorem dX6_gather_36 : decode cX6_gather 36 = .ok (.iaload, 1) := by decide +kernel
theorem dX6_gather_37 : decode cX6_gather 37 = .ok (.iload_n 1, 1) := by decide +kernel
theorem dX6_gather_38 : decode cX6_gather 38 = .ok (.if_icmp .eq 13, 3) := by decide +kernel
theorem dX6_gather_41 : decode cX6_gather 41 = .ok (.aload_n 0, 1) := by decide +kernel
theorem dX6_gather_42 : decode cX6_gather 42 = .ok (.getfield 34, 3) := by decide +kernel
theorem dX6_gather_45 : decode cX6_gather 45 = .ok (.iload_n 2, 1) := by decide +kernel
theorem dX6_gather_46 : decode cX6_gather 46 = .ok (.iaload, 1) := by decide +kernel
theorem dX6_gather_47 : decode cX6_gather 47 = .ok (.iconst (-1), 1) := by decide +kernel
theorem dX6_gather_48 : decode cX6_gather 48 = .ok (.if_icmp .eq 18, 3) := by decide +kernel
theorem dX6_gather_51 : decode cX6_gather 51 = .ok (.aload_n 0, 1) := by decide +kernel
theorem dX6_gather_52 : decode cX6_gather 52 = .ok (.getfield 22, 3) := by decide +kernel
theorem dX6_gather_55 : decode cX6_gather 55 = .ok (.aload_n 0, 1) := by decide +kernel
theorem dX6_gather_56 : decode cX6_gather 56 = .ok (.getfield 28, 3) := by decide +kernel
theorem dX6_gather_59 : decode cX6_gather 59 = .ok (.iload_n 2, 1) := by decide +kernel
theorem dX6_gather_60 : decode cX6_gather 60 = .ok (.iaload, 1) := by decide +kernel
theorem dX6_gather_61 : decode cX6_gather 61 = .ok (.dup2, 1) := by decide +kernel
theorem dX6_gather_62 : decode cX6_gather 62 = .ok (.iaload, 1) := by decide +kernel
theorem dX6_gather_63 : decode cX6_gather 63 = .ok (.iconst 1, 1) := by decide +kernel
theorem dX6_gather_64 : decode cX6_gather 64 = .ok (.iadd, 1) := by decide +kernel
theorem dX6_gather_65 : decode cX6_gather 65 = .ok (.iastore, 1) := by decide +kernel
theorem dX6_gather_66 : decode cX6_gather 66 = .ok (.iinc 2 1, 3) := by decide +kernel
theorem dX6_gather_69 : decode cX6_gather 69 = .ok (.goto (-46), 3) := by decide +kernel
theorem dX6_gather_72 : decode cX6_gather 72 = .ok (.iconst 0, 1) := by decide +kernel
theorem dX6_gather_73 : decode cX6_gather 73 = .ok (.istore_n 2, 1) := by decide +kernel
theorem dX6_gather_74 : decode cX6_gather 74 = .ok (.iload_n 2, 1) := by decide +kernel
theorem dX6_gather_75 : decode cX6_gather 75 = .ok (.bipush 8, 2) := by decide +kernel
theorem dX6_gather_77 : decode cX6_gather 77 = .ok (.if_icmp .ge 37, 3) := by decide +kernel
theorem dX6_gather_80 : decode cX6_gather 80 = .ok (.aload_n 0, 1) := by decide +kernel
theorem dX6_gather_81 : decode cX6_gather 81 = .ok (.getfield 47, 3) := by decide +kernel
theorem dX6_gather_84 : decode cX6_gather 84 = .ok (.iconst (-1), 1) := by decide +kernel
theorem dX6_gather_85 : decode cX6_gather 85 = .ok (.if_icmp .ne 29, 3) := by decide +kernel
theorem dX6_gather_88 : decode cX6_gather 88 = .ok (.aload_n 0, 1) := by decide +kernel
theorem dX6_gather_89 : decode cX6_gather 89 = .ok (.getfield 22, 3) := by decide +kernel
theorem dX6_gather_92 : decode cX6_gather 92 = .ok (.iload_n 2, 1) := by decide +kernel
theorem dX6_gather_93 : decode cX6_gather 93 = .ok (.iaload, 1) := by decide +kernel
theorem dX6_gather_94 : decode cX6_gather 94 = .ok (.iconst 1, 1) := by decide +kernel
theorem dX6_gather_95 : decode cX6_gather 95 = .ok (.if_icmp .le 13, 3) := by decide +kernel
theorem dX6_gather_98 : decode cX6_gather 98 = .ok (.aload_n 0, 1) := by decide +kernel
theorem dX6_gather_99 : decode cX6_gather 99 = .ok (.iload_n 1, 1) := by decide +kernel
theorem dX6_gather_100 : decode cX6_gather 100 = .ok (.putfield 47, 3) := by decide +kernel
theorem dX6_gather_103 : decode cX6_gather 103 = .ok (.aload_n 0, 1) := by decide +kernel
theorem dX6_gather_104 : decode cX6_gather 104 = .ok (.iload_n 2, 1) := by decide +kernel
theorem dX6_gather_105 : decode cX6_gather 105 = .ok (.putfield 50, 3) := by decide +kernel
theorem dX6_gather_108 : decode cX6_gather 108 = .ok (.iinc 2 1, 3) := by decide +kernel
theorem dX6_gather_111 : decode cX6_gather 111 = .ok (.goto (-37), 3) := by decide +kernel
theorem dX6_gather_114 : decode cX6_gather 114 = .ok (.return_, 1) := by decide +kernel
theorem dX6_settle_0 : decode cX6_settle 0 = .ok (.aload_n 0, 1) := by decide +kernel
theorem dX6_settle_1 : decode cX6_settle 1 = .ok (.getfield 28, 3) := by decide +kernel
theorem dX6_settle_4 : decode cX6_settle 4 = .ok (.iload_n 2, 1) := by decide +kernel
theorem dX6_settle_5 : decode cX6_settle 5 = .ok (.iaload, 1) := by decide +kernel
theorem dX6_settle_6 : decode cX6_settle 6 = .ok (.istore 4, 2) := by decide +kernel
theorem dX6_settle_8 : decode cX6_settle 8 = .ok (.aload_n 1, 1) := by decide +kernel
theorem dX6_settle_9 : decode cX6_settle 9 = .ok (.getfield 90, 3) := by decide +kernel
theorem dX6_settle_12 : decode cX6_settle 12 = .ok (.iload 4, 2) := by decide +kernel
theorem dX6_settle_14 : decode cX6_settle 14 = .ok (.aload_n 1, 1) := by decide +kernel
theorem dX6_settle_15 : decode cX6_settle 15 = .ok (.getfield 94, 3) := by decide +kernel
theorem dX6_settle_18 : decode cX6_settle 18 = .ok (.iload_n 2, 1) := by decide +kernel
theorem dX6_settle_19 : decode cX6_settle 19 = .ok (.iaload, 1) := by decide +kernel
theorem dX6_settle_20 : decode cX6_settle 20 = .ok (.invokevirtual 97, 3) := by decide +kernel
theorem dX6_settle_23 : decode cX6_settle 23 = .ok (.istore 5, 2) := by decide +kernel
theorem dX6_settle_25 : decode cX6_settle 25 = .ok (.iload 5, 2) := by decide +kernel
theorem dX6_settle_27 : decode cX6_settle 27 = .ok (.iconst (-1), 1) := by decide +kernel
theorem dX6_settle_28 : decode cX6_settle 28 = .ok (.if_icmp .ne 7, 3) := by decide +kernel
theorem dX6_settle_31 : decode cX6_settle 31 = .ok (.iconst 0, 1) := by decide +kernel
theorem dX6_settle_32 : decode cX6_settle 32 = .ok (.goto 14, 3) := by decide +kernel
theorem dX6_settle_35 : decode cX6_settle 35 = .ok (.aload_n 1, 1) := by decide +kernel
theorem dX6_settle_36 : decode cX6_settle 36 = .ok (.getfield 90, 3) := by decide +kernel
theorem dX6_settle_39 : decode cX6_settle 39 = .ok (.iload 4, 2) := by decide +kernel
theorem dX6_settle_41 : decode cX6_settle 41 = .ok (.iload 5, 2) := by decide +kernel
theorem dX6_settle_43 : decode cX6_settle 43 = .ok (.invokevirtual 102, 3) := by decide +kernel
theorem dX6_settle_46 : decode cX6_settle 46 = .ok (.istore 6, 2) := by decide +kernel
theorem dX6_settle_48 : decode cX6_settle 48 = .ok (.iload 6, 2) := by decide +kernel
theorem dX6_settle_50 : decode cX6_settle 50 = .ok (.aload_n 1, 1) := by decide +kernel
theorem dX6_settle_51 : decode cX6_settle 51 = .ok (.getfield 105, 3) := by decide +kernel
theorem dX6_settle_54 : decode cX6_settle 54 = .ok (.iload_n 2, 1) := by decide +kernel
theorem dX6_settle_55 : decode cX6_settle 55 = .ok (.iaload, 1) := by decide +kernel
theorem dX6_settle_56 : decode cX6_settle 56 = .ok (.iadd, 1) := by decide +kernel
theorem dX6_settle_57 : decode cX6_settle 57 = .ok (.istore 7, 2) := by decide +kernel
theorem dX6_settle_59 : decode cX6_settle 59 = .ok (.aload_n 0, 1) := by decide +kernel
theorem dX6_settle_60 : decode cX6_settle 60 = .ok (.getfield 25, 3) := by decide +kernel
theorem dX6_settle_63 : decode cX6_settle 63 = .ok (.iload 4, 2) := by decide +kernel
theorem dX6_settle_65 : decode cX6_settle 65 = .ok (.dup2, 1) := by decide +kernel
theorem dX6_settle_66 : decode cX6_settle 66 = .ok (.iaload, 1) := by decide +kernel
theorem dX6_settle_67 : decode cX6_settle 67 = .ok (.iconst 1, 1) := by decide +kernel
theorem dX6_settle_68 : decode cX6_settle 68 = .ok (.iadd, 1) := by decide +kernel
theorem dX6_settle_69 : decode cX6_settle 69 = .ok (.iastore, 1) := by decide +kernel
theorem dX6_settle_70 : decode cX6_settle 70 = .ok (.iload 4, 2) := by decide +kernel
theorem dX6_settle_72 : decode cX6_settle 72 = .ok (.aload_n 1, 1) := by decide +kernel
theorem dX6_settle_73 : decode cX6_settle 73 = .ok (.getfield 94, 3) := by decide +kernel
theorem dX6_settle_76 : decode cX6_settle 76 = .ok (.iload_n 2, 1) := by decide +kernel
theorem dX6_settle_77 : decode cX6_settle 77 = .ok (.iaload, 1) := by decide +kernel
theorem dX6_settle_78 : decode cX6_settle 78 = .ok (.if_icmp .ne 13, 3) := by decide +kernel
theorem dX6_settle_81 : decode cX6_settle 81 = .ok (.aload_n 0, 1) := by decide +kernel
theorem dX6_settle_82 : decode cX6_settle 82 = .ok (.getfield 31, 3) := by decide +kernel
theorem dX6_settle_85 : decode cX6_settle 85 = .ok (.iload_n 2, 1) := by decide +kernel
theorem dX6_settle_86 : decode cX6_settle 86 = .ok (.iconst 2, 1) := by decide +kernel
theorem dX6_settle_87 : decode cX6_settle 87 = .ok (.iastore, 1) := by decide +kernel
theorem dX6_settle_88 : decode cX6_settle 88 = .ok (.goto 91, 3) := by decide +kernel
theorem dX6_settle_91 : decode cX6_settle 91 = .ok (.aload_n 0, 1) := by decide +kernel
theorem dX6_settle_92 : decode cX6_settle 92 = .ok (.aload_n 1, 1) := by decide +kernel
theorem dX6_settle_93 : decode cX6_settle 93 = .ok (.getfield 108, 3) := by decide +kernel
theorem dX6_settle_96 : decode cX6_settle 96 = .ok (.iload_n 2, 1) := by decide +kernel
theorem dX6_settle_97 : decode cX6_settle 97 = .ok (.iaload, 1) := by decide +kernel
theorem dX6_settle_98 : decode cX6_settle 98 = .ok (.iload 4, 2) := by decide +kernel
theorem dX6_settle_100 : decode cX6_settle 100 = .ok (.aload_n 1, 1) := by decide +kernel
theorem dX6_settle_101 : decode cX6_settle 101 = .ok (.iload_n 3, 1) := by decide +kernel
theorem dX6_settle_102 : decode cX6_settle 102 = .ok (.iload 4, 2) := by decide +kernel
theorem dX6_settle_104 : decode cX6_settle 104 = .ok (.invokevirtual 111, 3) := by decide +kernel
theorem dX6_settle_107 : decode cX6_settle 107 = .ok (.invokevirtual 115, 3) := by decide +kernel
theorem dX6_settle_110 : decode cX6_settle 110 = .ok (.ifCond .eq 13, 3) := by decide +kernel
theorem dX6_settle_113 : decode cX6_settle 113 = .ok (.aload_n 0, 1) := by decide +kernel
theorem dX6_settle_114 : decode cX6_settle 114 = .ok (.getfield 31, 3) := by decide +kernel
theorem dX6_settle_117 : decode cX6_settle 117 = .ok (.iload_n 2, 1) := by decide +kernel
theorem dX6_settle_118 : decode cX6_settle 118 = .ok (.iconst 3, 1) := by decide +kernel
theorem dX6_settle_119 : decode cX6_settle 119 = .ok (.iastore, 1) := by decide +kernel
theorem dX6_settle_120 : decode cX6_settle 120 = .ok (.goto 59, 3) := by decide +kernel
theorem dX6_settle_123 : decode cX6_settle 123 = .ok (.iload 5, 2) := by decide +kernel
theorem dX6_settle_125 : decode cX6_settle 125 = .ok (.iconst (-1), 1) := by decide +kernel
theorem dX6_settle_126 : decode cX6_settle 126 = .ok (.if_icmp .ne 13, 3) := by decide +kernel
theorem dX6_settle_129 : decode cX6_settle 129 = .ok (.aload_n 0, 1) := by decide +kernel
theorem dX6_settle_130 : decode cX6_settle 130 = .ok (.getfield 31, 3) := by decide +kernel
theorem dX6_settle_133 : decode cX6_settle 133 = .ok (.iload_n 2, 1) := by decide +kernel
theorem dX6_settle_134 : decode cX6_settle 134 = .ok (.iconst 5, 1) := by decide +kernel
theorem dX6_settle_135 : decode cX6_settle 135 = .ok (.iastore, 1) := by decide +kernel
theorem dX6_settle_136 : decode cX6_settle 136 = .ok (.goto 43, 3) := by decide +kernel
theorem dX6_settle_139 : decode cX6_settle 139 = .ok (.aload_n 0, 1) := by decide +kernel
theorem dX6_settle_140 : decode cX6_settle 140 = .ok (.getfield 19, 3) := by decide +kernel
theorem dX6_settle_143 : decode cX6_settle 143 = .ok (.iload_n 2, 1) := by decide +kernel
theorem dX6_settle_144 : decode cX6_settle 144 = .ok (.iaload, 1) := by decide +kernel
theorem dX6_settle_145 : decode cX6_settle 145 = .ok (.iload 7, 2) := by decide +kernel
theorem dX6_settle_147 : decode cX6_settle 147 = .ok (.if_icmp .ge 32, 3) := by decide +kernel
theorem dX6_settle_150 : decode cX6_settle 150 = .ok (.aload_n 0, 1) := by decide +kernel
theorem dX6_settle_151 : decode cX6_settle 151 = .ok (.getfield 31, 3) := by decide +kernel
theorem dX6_settle_154 : decode cX6_settle 154 = .ok (.iload_n 2, 1) := by decide +kernel
theorem dX6_settle_155 : decode cX6_settle 155 = .ok (.iconst 4, 1) := by decide +kernel
theorem dX6_settle_156 : decode cX6_settle 156 = .ok (.iastore, 1) := by decide +kernel
theorem dX6_settle_157 : decode cX6_settle 157 = .ok (.aload_n 0, 1) := by decide +kernel
theorem dX6_settle_158 : decode cX6_settle 158 = .ok (.getfield 37, 3) := by decide +kernel
theorem dX6_settle_161 : decode cX6_settle 161 = .ok (.iload_n 2, 1) := by decide +kernel
theorem dX6_settle_162 : decode cX6_settle 162 = .ok (.aload_n 1, 1) := by decide +kernel
theorem dX6_settle_163 : decode cX6_settle 163 = .ok (.getfield 78, 3) := by decide +kernel
theorem dX6_settle_166 : decode cX6_settle 166 = .ok (.iload_n 2, 1) := by decide +kernel
theorem dX6_settle_167 : decode cX6_settle 167 = .ok (.iaload, 1) := by decide +kernel
theorem dX6_settle_168 : decode cX6_settle 168 = .ok (.aload_n 0, 1) := by decide +kernel
theorem dX6_settle_169 : decode cX6_settle 169 = .ok (.getfield 19, 3) := by decide +kernel
theorem dX6_settle_172 : decode cX6_settle 172 = .ok (.iload_n 2, 1) := by decide +kernel
theorem dX6_settle_173 : decode cX6_settle 173 = .ok (.iaload, 1) := by decide +kernel
theorem dX6_settle_174 : decode cX6_settle 174 = .ok (.isub, 1) := by decide +kernel
theorem dX6_settle_175 : decode cX6_settle 175 = .ok (.iload 7, 2) := by decide +kernel
theorem dX6_settle_177 : decode cX6_settle 177 = .ok (.iadd, 1) := by decide +kernel
theorem dX6_settle_178 : decode cX6_settle 178 = .ok (.iastore, 1) := by decide +kernel
theorem dX6_settle_179 : decode cX6_settle 179 = .ok (.aload_n 0, 1) := by decide +kernel
theorem dX6_settle_180 : decode cX6_settle 180 = .ok (.getfield 31, 3) := by decide +kernel
theorem dX6_settle_183 : decode cX6_settle 183 = .ok (.iload_n 2, 1) := by decide +kernel
theorem dX6_settle_184 : decode cX6_settle 184 = .ok (.iaload, 1) := by decide +kernel
theorem dX6_settle_185 : decode cX6_settle 185 = .ok (.iconst 1, 1) := by decide +kernel
theorem dX6_settle_186 : decode cX6_settle 186 = .ok (.if_icmp .ne 54, 3) := by decide +kernel
theorem dX6_settle_189 : decode cX6_settle 189 = .ok (.aload_n 0, 1) := by decide +kernel
theorem dX6_settle_190 : decode cX6_settle 190 = .ok (.getfield 19, 3) := by decide +kernel
theorem dX6_settle_193 : decode cX6_settle 193 = .ok (.iload_n 2, 1) := by decide +kernel
theorem dX6_settle_194 : decode cX6_settle 194 = .ok (.dup2, 1) := by decide +kernel
theorem dX6_settle_195 : decode cX6_settle 195 = .ok (.iaload, 1) := by decide +kernel
theorem dX6_settle_196 : decode cX6_settle 196 = .ok (.iload 7, 2) := by decide +kernel
theorem dX6_settle_198 : decode cX6_settle 198 = .ok (.isub, 1) := by decide +kernel
theorem dX6_settle_199 : decode cX6_settle 199 = .ok (.iastore, 1) := by decide +kernel
theorem dX6_settle_200 : decode cX6_settle 200 = .ok (.aload_n 0, 1) := by decide +kernel
theorem dX6_settle_201 : decode cX6_settle 201 = .ok (.getfield 15, 3) := by decide +kernel
theorem dX6_settle_204 : decode cX6_settle 204 = .ok (.iload_n 2, 1) := by decide +kernel
theorem dX6_settle_205 : decode cX6_settle 205 = .ok (.iload_n 3, 1) := by decide +kernel
theorem dX6_settle_206 : decode cX6_settle 206 = .ok (.iload 6, 2) := by decide +kernel
theorem dX6_settle_208 : decode cX6_settle 208 = .ok (.iadd, 1) := by decide +kernel
theorem dX6_settle_209 : decode cX6_settle 209 = .ok (.iastore, 1) := by decide +kernel
theorem dX6_settle_210 : decode cX6_settle 210 = .ok (.aload_n 0, 1) := by decide +kernel
theorem dX6_settle_211 : decode cX6_settle 211 = .ok (.getfield 28, 3) := by decide +kernel
theorem dX6_settle_214 : decode cX6_settle 214 = .ok (.iload_n 2, 1) := by decide +kernel
theorem dX6_settle_215 : decode cX6_settle 215 = .ok (.iload 5, 2) := by decide +kernel
theorem dX6_settle_217 : decode cX6_settle 217 = .ok (.iastore, 1) := by decide +kernel
theorem dX6_settle_218 : decode cX6_settle 218 = .ok (.aload_n 0, 1) := by decide +kernel
theorem dX6_settle_219 : decode cX6_settle 219 = .ok (.getfield 43, 3) := by decide +kernel
theorem dX6_settle_222 : decode cX6_settle 222 = .ok (.iload_n 2, 1) := by decide +kernel
theorem dX6_settle_223 : decode cX6_settle 223 = .ok (.iload_n 3, 1) := by decide +kernel
theorem dX6_settle_224 : decode cX6_settle 224 = .ok (.iload 4, 2) := by decide +kernel
theorem dX6_settle_226 : decode cX6_settle 226 = .ok (.aload_n 0, 1) := by decide +kernel
theorem dX6_settle_227 : decode cX6_settle 227 = .ok (.getfield 19, 3) := by decide +kernel
theorem dX6_settle_230 : decode cX6_settle 230 = .ok (.iload_n 2, 1) := by decide +kernel
theorem dX6_settle_231 : decode cX6_settle 231 = .ok (.iaload, 1) := by decide +kernel
theorem dX6_settle_232 : decode cX6_settle 232 = .ok (.iload 5, 2) := by decide +kernel
theorem dX6_settle_234 : decode cX6_settle 234 = .ok (.invokevirtual 119, 3) := by decide +kernel
theorem dX6_settle_237 : decode cX6_settle 237 = .ok (.goto 37, 3) := by decide +kernel
theorem dX6_settle_240 : decode cX6_settle 240 = .ok (.aload_n 0, 1) := by decide +kernel
theorem dX6_settle_241 : decode cX6_settle 241 = .ok (.getfield 34, 3) := by decide +kernel
theorem dX6_settle_244 : decode cX6_settle 244 = .ok (.iload_n 2, 1) := by decide +kernel
theorem dX6_settle_245 : decode cX6_settle 245 = .ok (.iload_n 3, 1) := by decide +kernel
theorem dX6_settle_246 : decode cX6_settle 246 = .ok (.iastore, 1) := by decide +kernel
theorem dX6_settle_247 : decode cX6_settle 247 = .ok (.aload_n 0, 1) := by decide +kernel
theorem dX6_settle_248 : decode cX6_settle 248 = .ok (.getfield 15, 3) := by decide +kernel
theorem dX6_settle_251 : decode cX6_settle 251 = .ok (.iload_n 2, 1) := by decide +kernel
theorem dX6_settle_252 : decode cX6_settle 252 = .ok (.sipush 1000, 3) := by decide +kernel
theorem dX6_settle_255 : decode cX6_settle 255 = .ok (.iastore, 1) := by decide +kernel
theorem dX6_settle_256 : decode cX6_settle 256 = .ok (.aload_n 0, 1) := by decide +kernel
theorem dX6_settle_257 : decode cX6_settle 257 = .ok (.getfield 43, 3) := by decide +kernel
theorem dX6_settle_260 : decode cX6_settle 260 = .ok (.iload_n 2, 1) := by decide +kernel
theorem dX6_settle_261 : decode cX6_settle 261 = .ok (.iload_n 3, 1) := by decide +kernel
theorem dX6_settle_262 : decode cX6_settle 262 = .ok (.iload 4, 2) := by decide +kernel
theorem dX6_settle_264 : decode cX6_settle 264 = .ok (.aload_n 0, 1) := by decide +kernel
theorem dX6_settle_265 : decode cX6_settle 265 = .ok (.getfield 19, 3) := by decide +kernel
theorem dX6_settle_268 : decode cX6_settle 268 = .ok (.iload_n 2, 1) := by decide +kernel
theorem dX6_settle_269 : decode cX6_settle 269 = .ok (.iaload, 1) := by decide +kernel
theorem dX6_settle_270 : decode cX6_settle 270 = .ok (.iconst (-1), 1) := by decide +kernel
theorem dX6_settle_271 : decode cX6_settle 271 = .ok (.invokevirtual 119, 3) := by decide +kernel
theorem dX6_settle_274 : decode cX6_settle 274 = .ok (.return_, 1) := by decide +kernel
theorem dX6_isTold_0 : decode cX6_isTold 0 = .ok (.iload_n 1, 1) := by decide +kernel
theorem dX6_isTold_1 : decode cX6_isTold 1 = .ok (.iconst 2, 1) := by decide +kernel
theorem dX6_isTold_2 : decode cX6_isTold 2 = .ok (.if_icmp .eq 7, 3) := by decide +kernel
theorem dX6_isTold_5 : decode cX6_isTold 5 = .ok (.iload_n 3, 1) := by decide +kernel
theorem dX6_isTold_6 : decode cX6_isTold 6 = .ok (.ifCond .ne 18, 3) := by decide +kernel
theorem dX6_isTold_9 : decode cX6_isTold 9 = .ok (.iload_n 1, 1) := by decide +kernel
theorem dX6_isTold_10 : decode cX6_isTold 10 = .ok (.iconst 1, 1) := by decide +kernel
theorem dX6_isTold_11 : decode cX6_isTold 11 = .ok (.if_icmp .ne 17, 3) := by decide +kernel
theorem dX6_isTold_14 : decode cX6_isTold 14 = .ok (.aload_n 0, 1) := by decide +kernel
theorem dX6_isTold_15 : decode cX6_isTold 15 = .ok (.getfield 22, 3) := by decide +kernel
theorem dX6_isTold_18 : decode cX6_isTold 18 = .ok (.iload_n 2, 1) := by decide +kernel
theorem dX6_isTold_19 : decode cX6_isTold 19 = .ok (.iaload, 1) := by decide +kernel
theorem dX6_isTold_20 : decode cX6_isTold 20 = .ok (.iconst 1, 1) := by decide +kernel
theorem dX6_isTold_21 : decode cX6_isTold 21 = .ok (.if_icmp .le 7, 3) := by decide +kernel
theorem dX6_isTold_24 : decode cX6_isTold 24 = .ok (.iconst 1, 1) := by decide +kernel
theorem dX6_isTold_25 : decode cX6_isTold 25 = .ok (.goto 4, 3) := by decide +kernel
theorem dX6_isTold_28 : decode cX6_isTold 28 = .ok (.iconst 0, 1) := by decide +kernel
theorem dX6_isTold_29 : decode cX6_isTold 29 = .ok (.ireturn, 1) := by decide +kernel
theorem dX6_stayBehind_0 : decode cX6_stayBehind 0 = .ok (.aload_n 0, 1) := by decide +kernel
theorem dX6_stayBehind_1 : decode cX6_stayBehind 1 = .ok (.getfield 34, 3) := by decide +kernel
theorem dX6_stayBehind_4 : decode cX6_stayBehind 4 = .ok (.iload_n 1, 1) := by decide +kernel
theorem dX6_stayBehind_5 : decode cX6_stayBehind 5 = .ok (.iaload, 1) := by decide +kernel
theorem dX6_stayBehind_6 : decode cX6_stayBehind 6 = .ok (.iconst (-1), 1) := by decide +kernel
theorem dX6_stayBehind_7 : decode cX6_stayBehind 7 = .ok (.if_icmp .eq 22, 3) := by decide +kernel
theorem dX6_stayBehind_10 : decode cX6_stayBehind 10 = .ok (.aload_n 0, 1) := by decide +kernel
theorem dX6_stayBehind_11 : decode cX6_stayBehind 11 = .ok (.getfield 34, 3) := by decide +kernel
theorem dX6_stayBehind_14 : decode cX6_stayBehind 14 = .ok (.iload_n 1, 1) := by decide +kernel
theorem dX6_stayBehind_15 : decode cX6_stayBehind 15 = .ok (.iaload, 1) := by decide +kernel
theorem dX6_stayBehind_16 : decode cX6_stayBehind 16 = .ok (.iload_n 2, 1) := by decide +kernel
theorem dX6_stayBehind_17 : decode cX6_stayBehind 17 = .ok (.if_icmp .gt 12, 3) := by decide +kernel
theorem dX6_stayBehind_20 : decode cX6_stayBehind 20 = .ok (.aload_n 0, 1) := by decide +kernel
theorem dX6_stayBehind_21 : decode cX6_stayBehind 21 = .ok (.getfield 28, 3) := by decide +kernel
theorem dX6_stayBehind_24 : decode cX6_stayBehind 24 = .ok (.iload_n 1, 1) := by decide +kernel
theorem dX6_stayBehind_25 : decode cX6_stayBehind 25 = .ok (.iaload, 1) := by decide +kernel
theorem dX6_stayBehind_26 : decode cX6_stayBehind 26 = .ok (.goto 4, 3) := by decide +kernel
theorem dX6_stayBehind_29 : decode cX6_stayBehind 29 = .ok (.iconst (-1), 1) := by decide +kernel
theorem dX6_stayBehind_30 : decode cX6_stayBehind 30 = .ok (.ireturn, 1) := by decide +kernel
theorem dX6_whoIs_0 : decode cX6_whoIs 0 = .ok (.iconst 0, 1) := by decide +kernel
theorem dX6_whoIs_1 : decode cX6_whoIs 1 = .ok (.istore_n 2, 1) := by decide +kernel
theorem dX6_whoIs_2 : decode cX6_whoIs 2 = .ok (.iconst 0, 1) := by decide +kernel
theorem dX6_whoIs_3 : decode cX6_whoIs 3 = .ok (.istore_n 3, 1) := by decide +kernel
theorem dX6_whoIs_4 : decode cX6_whoIs 4 = .ok (.iload_n 3, 1) := by decide +kernel
theorem dX6_whoIs_5 : decode cX6_whoIs 5 = .ok (.aload_n 0, 1) := by decide +kernel
theorem dX6_whoIs_6 : decode cX6_whoIs 6 = .ok (.getfield 9, 3) := by decide +kernel
theorem dX6_whoIs_9 : decode cX6_whoIs 9 = .ok (.if_icmp .ge 25, 3) := by decide +kernel
theorem dX6_whoIs_12 : decode cX6_whoIs 12 = .ok (.aload_n 0, 1) := by decide +kernel
theorem dX6_whoIs_13 : decode cX6_whoIs 13 = .ok (.getfield 31, 3) := by decide +kernel
theorem dX6_whoIs_16 : decode cX6_whoIs 16 = .ok (.iload_n 3, 1) := by decide +kernel
theorem dX6_whoIs_17 : decode cX6_whoIs 17 = .ok (.iaload, 1) := by decide +kernel
theorem dX6_whoIs_18 : decode cX6_whoIs 18 = .ok (.iload_n 1, 1) := by decide +kernel
theorem dX6_whoIs_19 : decode cX6_whoIs 19 = .ok (.if_icmp .ne 9, 3) := by decide +kernel
theorem dX6_whoIs_22 : decode cX6_whoIs 22 = .ok (.iload_n 2, 1) := by decide +kernel
theorem dX6_whoIs_23 : decode cX6_whoIs 23 = .ok (.iconst 1, 1) := by decide +kernel
theorem dX6_whoIs_24 : decode cX6_whoIs 24 = .ok (.iload_n 3, 1) := by decide +kernel
theorem dX6_whoIs_25 : decode cX6_whoIs 25 = .ok (.ishl, 1) := by decide +kernel
theorem dX6_whoIs_26 : decode cX6_whoIs 26 = .ok (.ior, 1) := by decide +kernel
theorem dX6_whoIs_27 : decode cX6_whoIs 27 = .ok (.istore_n 2, 1) := by decide +kernel
theorem dX6_whoIs_28 : decode cX6_whoIs 28 = .ok (.iinc 3 1, 3) := by decide +kernel
theorem dX6_whoIs_31 : decode cX6_whoIs 31 = .ok (.goto (-27), 3) := by decide +kernel
theorem dX6_whoIs_34 : decode cX6_whoIs 34 = .ok (.iload_n 2, 1) := by decide +kernel
theorem dX6_whoIs_35 : decode cX6_whoIs 35 = .ok (.ireturn, 1) := by decide +kernel
theorem dX6_howMany_0 : decode cX6_howMany 0 = .ok (.aload_n 0, 1) := by decide +kernel
theorem dX6_howMany_1 : decode cX6_howMany 1 = .ok (.iload_n 1, 1) := by decide +kernel
theorem dX6_howMany_2 : decode cX6_howMany 2 = .ok (.invokevirtual 123, 3) := by decide +kernel
theorem dX6_howMany_5 : decode cX6_howMany 5 = .ok (.invokestatic 127, 3) := by decide +kernel
theorem dX6_howMany_8 : decode cX6_howMany 8 = .ok (.ireturn, 1) := by decide +kernel
theorem dX6_allArrivals_0 : decode cX6_allArrivals 0 = .ok (.iconst 0, 1) := by decide +kernel
theorem dX6_allArrivals_1 : decode cX6_allArrivals 1 = .ok (.istore_n 1, 1) := by decide +kernel
theorem dX6_allArrivals_2 : decode cX6_allArrivals 2 = .ok (.iconst 0, 1) := by decide +kernel
theorem dX6_allArrivals_3 : decode cX6_allArrivals 3 = .ok (.istore_n 2, 1) := by decide +kernel
theorem dX6_allArrivals_4 : decode cX6_allArrivals 4 = .ok (.iload_n 2, 1) := by decide +kernel
theorem dX6_allArrivals_5 : decode cX6_allArrivals 5 = .ok (.bipush 8, 2) := by decide +kernel
theorem dX6_allArrivals_7 : decode cX6_allArrivals 7 = .ok (.if_icmp .ge 18, 3) := by decide +kernel
theorem dX6_allArrivals_10 : decode cX6_allArrivals 10 = .ok (.iload_n 1, 1) := by decide +kernel
theorem dX6_allArrivals_11 : decode cX6_allArrivals 11 = .ok (.aload_n 0, 1) := by decide +kernel
theorem dX6_allArrivals_12 : decode cX6_allArrivals 12 = .ok (.getfield 25, 3) := by decide +kernel
theorem dX6_allArrivals_15 : decode cX6_allArrivals 15 = .ok (.iload_n 2, 1) := by decide +kernel
theorem dX6_allArrivals_16 : decode cX6_allArrivals 16 = .ok (.iaload, 1) := by decide +kernel
theorem dX6_allArrivals_17 : decode cX6_allArrivals 17 = .ok (.iadd, 1) := by decide +kernel
theorem dX6_allArrivals_18 : decode cX6_allArrivals 18 = .ok (.istore_n 1, 1) := by decide +kernel
theorem dX6_allArrivals_19 : decode cX6_allArrivals 19 = .ok (.iinc 2 1, 3) := by decide +kernel
theorem dX6_allArrivals_22 : decode cX6_allArrivals 22 = .ok (.goto (-18), 3) := by decide +kernel
theorem dX6_allArrivals_25 : decode cX6_allArrivals 25 = .ok (.iload_n 1, 1) := by decide +kernel
theorem dX6_allArrivals_26 : decode cX6_allArrivals 26 = .ok (.ireturn, 1) := by decide +kernel
theorem dX6_mostArrivals_0 : decode cX6_mostArrivals 0 = .ok (.iconst 0, 1) := by decide +kernel
theorem dX6_mostArrivals_1 : decode cX6_mostArrivals 1 = .ok (.istore_n 1, 1) := by decide +kernel
theorem dX6_mostArrivals_2 : decode cX6_mostArrivals 2 = .ok (.iconst (-1), 1) := by decide +kernel
theorem dX6_mostArrivals_3 : decode cX6_mostArrivals 3 = .ok (.istore_n 2, 1) := by decide +kernel
theorem dX6_mostArrivals_4 : decode cX6_mostArrivals 4 = .ok (.iconst 0, 1) := by decide +kernel
theorem dX6_mostArrivals_5 : decode cX6_mostArrivals 5 = .ok (.istore_n 3, 1) := by decide +kernel
theorem dX6_mostArrivals_6 : decode cX6_mostArrivals 6 = .ok (.iload_n 3, 1) := by decide +kernel
theorem dX6_mostArrivals_7 : decode cX6_mostArrivals 7 = .ok (.bipush 8, 2) := by decide +kernel
theorem dX6_mostArrivals_9 : decode cX6_mostArrivals 9 = .ok (.if_icmp .ge 28, 3) := by decide +kernel
theorem dX6_mostArrivals_12 : decode cX6_mostArrivals 12 = .ok (.aload_n 0, 1) := by decide +kernel
theorem dX6_mostArrivals_13 : decode cX6_mostArrivals 13 = .ok (.getfield 25, 3) := by decide +kernel
theorem dX6_mostArrivals_16 : decode cX6_mostArrivals 16 = .ok (.iload_n 3, 1) := by decide +kernel
theorem dX6_mostArrivals_17 : decode cX6_mostArrivals 17 = .ok (.iaload, 1) := by decide +kernel
theorem dX6_mostArrivals_18 : decode cX6_mostArrivals 18 = .ok (.iload_n 1, 1) := by decide +kernel
theorem dX6_mostArrivals_19 : decode cX6_mostArrivals 19 = .ok (.if_icmp .le 12, 3) := by decide +kernel
theorem dX6_mostArrivals_22 : decode cX6_mostArrivals 22 = .ok (.aload_n 0, 1) := by decide +kernel
theorem dX6_mostArrivals_23 : decode cX6_mostArrivals 23 = .ok (.getfield 25, 3) := by decide +kernel
theorem dX6_mostArrivals_26 : decode cX6_mostArrivals 26 = .ok (.iload_n 3, 1) := by decide +kernel
theorem dX6_mostArrivals_27 : decode cX6_mostArrivals 27 = .ok (.iaload, 1) := by decide +kernel
theorem dX6_mostArrivals_28 : decode cX6_mostArrivals 28 = .ok (.istore_n 1, 1) := by decide +kernel
theorem dX6_mostArrivals_29 : decode cX6_mostArrivals 29 = .ok (.iload_n 3, 1) := by decide +kernel
theorem dX6_mostArrivals_30 : decode cX6_mostArrivals 30 = .ok (.istore_n 2, 1) := by decide +kernel
theorem dX6_mostArrivals_31 : decode cX6_mostArrivals 31 = .ok (.iinc 3 1, 3) := by decide +kernel
theorem dX6_mostArrivals_34 : decode cX6_mostArrivals 34 = .ok (.goto (-28), 3) := by decide +kernel
theorem dX6_mostArrivals_37 : decode cX6_mostArrivals 37 = .ok (.iload_n 2, 1) := by decide +kernel
theorem dX6_mostArrivals_38 : decode cX6_mostArrivals 38 = .ok (.ireturn, 1) := by decide +kernel
theorem dX7_init_0 : decode cX7_init 0 = .ok (.aload_n 0, 1) := by decide +kernel
theorem dX7_init_1 : decode cX7_init 1 = .ok (.invokespecial 3, 3) := by decide +kernel
theorem dX7_init_4 : decode cX7_init 4 = .ok (.aload_n 0, 1) := by decide +kernel
theorem dX7_init_5 : decode cX7_init 5 = .ok (.bipush 8, 2) := by decide +kernel
theorem dX7_init_7 : decode cX7_init 7 = .ok (.newarray .int, 2) := by decide +kernel
theorem dX7_init_9 : decode cX7_init 9 = .ok (.putfield 9, 3) := by decide +kernel
theorem dX7_init_12 : decode cX7_init 12 = .ok (.aload_n 0, 1) := by decide +kernel
theorem dX7_init_13 : decode cX7_init 13 = .ok (.bipush 8, 2) := by decide +kernel
theorem dX7_init_15 : decode cX7_init 15 = .ok (.newarray .int, 2) := by decide +kernel
theorem dX7_init_17 : decode cX7_init 17 = .ok (.putfield 15, 3) := by decide +kernel
theorem dX7_init_20 : decode cX7_init 20 = .ok (.aload_n 0, 1) := by decide +kernel
theorem dX7_init_21 : decode cX7_init 21 = .ok (.bipush 8, 2) := by decide +kernel
theorem dX7_init_23 : decode cX7_init 23 = .ok (.newarray .int, 2) := by decide +kernel
theorem dX7_init_25 : decode cX7_init 25 = .ok (.putfield 18, 3) := by decide +kernel
theorem dX7_init_28 : decode cX7_init 28 = .ok (.aload_n 0, 1) := by decide +kernel
theorem dX7_init_29 : decode cX7_init 29 = .ok (.bipush 8, 2) := by decide +kernel
theorem dX7_init_31 : decode cX7_init 31 = .ok (.newarray .int, 2) := by decide +kernel
theorem dX7_init_33 : decode cX7_init 33 = .ok (.putfield 21, 3) := by decide +kernel
theorem dX7_init_36 : decode cX7_init 36 = .ok (.aload_n 0, 1) := by decide +kernel
theorem dX7_init_37 : decode cX7_init 37 = .ok (.bipush 8, 2) := by decide +kernel
theorem dX7_init_39 : decode cX7_init 39 = .ok (.newarray .int, 2) := by decide +kernel
theorem dX7_init_41 : decode cX7_init 41 = .ok (.putfield 24, 3) := by decide +kernel
theorem dX7_init_44 : decode cX7_init 44 = .ok (.aload_n 0, 1) := by decide +kernel
theorem dX7_init_45 : decode cX7_init 45 = .ok (.bipush 8, 2) := by decide +kernel
theorem dX7_init_47 : decode cX7_init 47 = .ok (.newarray .int, 2) := by decide +kernel
theorem dX7_init_49 : decode cX7_init 49 = .ok (.putfield 27, 3) := by decide +kernel
theorem dX7_init_52 : decode cX7_init 52 = .ok (.aload_n 0, 1) := by decide +kernel
theorem dX7_init_53 : decode cX7_init 53 = .ok (.iconst 0, 1) := by decide +kernel
theorem dX7_init_54 : decode cX7_init 54 = .ok (.putfield 30, 3) := by decide +kernel
theorem dX7_init_57 : decode cX7_init 57 = .ok (.aload_n 0, 1) := by decide +kernel
theorem dX7_init_58 : decode cX7_init 58 = .ok (.iconst 0, 1) := by decide +kernel
theorem dX7_init_59 : decode cX7_init 59 = .ok (.putfield 34, 3) := by decide +kernel
theorem dX7_init_62 : decode cX7_init 62 = .ok (.aload_n 0, 1) := by decide +kernel
theorem dX7_init_63 : decode cX7_init 63 = .ok (.aload_n 1, 1) := by decide +kernel
theorem dX7_init_64 : decode cX7_init 64 = .ok (.putfield 37, 3) := by decide +kernel
theorem dX7_init_67 : decode cX7_init 67 = .ok (.aload_n 0, 1) := by decide +kernel
theorem dX7_init_68 : decode cX7_init 68 = .ok (.aload_n 2, 1) := by decide +kernel
theorem dX7_init_69 : decode cX7_init 69 = .ok (.putfield 41, 3) := by decide +kernel
theorem dX7_init_72 : decode cX7_init 72 = .ok (.return_, 1) := by decide +kernel
theorem dX7_take_0 : decode cX7_take 0 = .ok (.aload_n 0, 1) := by decide +kernel
theorem dX7_take_1 : decode cX7_take 1 = .ok (.aload_n 1, 1) := by decide +kernel
theorem dX7_take_2 : decode cX7_take 2 = .ok (.getfield 45, 3) := by decide +kernel
theorem dX7_take_5 : decode cX7_take 5 = .ok (.putfield 30, 3) := by decide +kernel
theorem dX7_take_8 : decode cX7_take 8 = .ok (.iconst 0, 1) := by decide +kernel
theorem dX7_take_9 : decode cX7_take 9 = .ok (.istore_n 2, 1) := by decide +kernel
theorem dX7_take_10 : decode cX7_take 10 = .ok (.iload_n 2, 1) := by decide +kernel
theorem dX7_take_11 : decode cX7_take 11 = .ok (.aload_n 0, 1) := by decide +kernel
theorem dX7_take_12 : decode cX7_take 12 = .ok (.getfield 30, 3) := by decide +kernel
theorem dX7_take_15 : decode cX7_take 15 = .ok (.if_icmp .ge 79, 3) := by decide +kernel
theorem dX7_take_18 : decode cX7_take 18 = .ok (.aload_n 0, 1) := by decide +kernel
theorem dX7_take_19 : decode cX7_take 19 = .ok (.getfield 9, 3) := by decide +kernel
theorem dX7_take_22 : decode cX7_take 22 = .ok (.iload_n 2, 1) := by decide +kernel
theorem dX7_take_23 : decode cX7_take 23 = .ok (.aload_n 1, 1) := by decide +kernel
theorem dX7_take_24 : decode cX7_take 24 = .ok (.iload_n 2, 1) := by decide +kernel
theorem dX7_take_25 : decode cX7_take 25 = .ok (.iconst 0, 1) := by decide +kernel
theorem dX7_take_26 : decode cX7_take 26 = .ok (.invokevirtual 50, 3) := by decide +kernel
theorem dX7_take_29 : decode cX7_take 29 = .ok (.iastore, 1) := by decide +kernel
theorem dX7_take_30 : decode cX7_take 30 = .ok (.aload_n 0, 1) := by decide +kernel
theorem dX7_take_31 : decode cX7_take 31 = .ok (.getfield 15, 3) := by decide +kernel
theorem dX7_take_34 : decode cX7_take 34 = .ok (.iload_n 2, 1) := by decide +kernel
theorem dX7_take_35 : decode cX7_take 35 = .ok (.aload_n 1, 1) := by decide +kernel
theorem dX7_take_36 : decode cX7_take 36 = .ok (.iload_n 2, 1) := by decide +kernel
theorem dX7_take_37 : decode cX7_take 37 = .ok (.iconst 1, 1) := by decide +kernel
theorem dX7_take_38 : decode cX7_take 38 = .ok (.invokevirtual 50, 3) := by decide +kernel
theorem dX7_take_41 : decode cX7_take 41 = .ok (.iastore, 1) := by decide +kernel
theorem dX7_take_42 : decode cX7_take 42 = .ok (.aload_n 0, 1) := by decide +kernel
theorem dX7_take_43 : decode cX7_take 43 = .ok (.getfield 18, 3) := by decide +kernel
theorem dX7_take_46 : decode cX7_take 46 = .ok (.iload_n 2, 1) := by decide +kernel
theorem dX7_take_47 : decode cX7_take 47 = .ok (.aload_n 1, 1) := by decide +kernel
theorem dX7_take_48 : decode cX7_take 48 = .ok (.iload_n 2, 1) := by decide +kernel
theorem dX7_take_49 : decode cX7_take 49 = .ok (.iconst 2, 1) := by decide +kernel
theorem dX7_take_50 : decode cX7_take 50 = .ok (.invokevirtual 50, 3) := by decide +kernel
theorem dX7_take_53 : decode cX7_take 53 = .ok (.iastore, 1) := by decide +kernel
theorem dX7_take_54 : decode cX7_take 54 = .ok (.aload_n 0, 1) := by decide +kernel
theorem dX7_take_55 : decode cX7_take 55 = .ok (.getfield 21, 3) := by decide +kernel
theorem dX7_take_58 : decode cX7_take 58 = .ok (.iload_n 2, 1) := by decide +kernel
theorem dX7_take_59 : decode cX7_take 59 = .ok (.bipush 10, 2) := by decide +kernel
theorem dX7_take_61 : decode cX7_take 61 = .ok (.aload_n 1, 1) := by decide +kernel
theorem dX7_take_62 : decode cX7_take 62 = .ok (.iload_n 2, 1) := by decide +kernel
theorem dX7_take_63 : decode cX7_take 63 = .ok (.iconst 3, 1) := by decide +kernel
theorem dX7_take_64 : decode cX7_take 64 = .ok (.invokevirtual 50, 3) := by decide +kernel
theorem dX7_take_67 : decode cX7_take 67 = .ok (.imul, 1) := by decide +kernel
theorem dX7_take_68 : decode cX7_take 68 = .ok (.aload_n 1, 1) := by decide +kernel
theorem dX7_take_69 : decode cX7_take 69 = .ok (.iload_n 2, 1) := by decide +kernel
theorem dX7_take_70 : decode cX7_take 70 = .ok (.iconst 4, 1) := by decide +kernel
theorem dX7_take_71 : decode cX7_take 71 = .ok (.invokevirtual 50, 3) := by decide +kernel
theorem dX7_take_74 : decode cX7_take 74 = .ok (.iadd, 1) := by decide +kernel
theorem dX7_take_75 : decode cX7_take 75 = .ok (.iastore, 1) := by decide +kernel
theorem dX7_take_76 : decode cX7_take 76 = .ok (.aload_n 0, 1) := by decide +kernel
theorem dX7_take_77 : decode cX7_take 77 = .ok (.getfield 24, 3) := by decide +kernel
theorem dX7_take_80 : decode cX7_take 80 = .ok (.iload_n 2, 1) := by decide +kernel
theorem dX7_take_81 : decode cX7_take 81 = .ok (.aload_n 1, 1) := by decide +kernel
theorem dX7_take_82 : decode cX7_take 82 = .ok (.iload_n 2, 1) := by decide +kernel
theorem dX7_take_83 : decode cX7_take 83 = .ok (.iconst 5, 1) := by decide +kernel
theorem dX7_take_84 : decode cX7_take 84 = .ok (.invokevirtual 50, 3) := by decide +kernel
theorem dX7_take_87 : decode cX7_take 87 = .ok (.iastore, 1) := by decide +kernel
theorem dX7_take_88 : decode cX7_take 88 = .ok (.iinc 2 1, 3) := by decide +kernel
theorem dX7_take_91 : decode cX7_take 91 = .ok (.goto (-81), 3) := by decide +kernel
theorem dX7_take_94 : decode cX7_take 94 = .ok (.return_, 1) := by decide +kernel
theorem dX7_part_0 : decode cX7_part 0 = .ok (.iload_n 2, 1) := by decide +kernel
theorem dX7_part_1 : decode cX7_part 1 = .ok (.tableswitch 59 0 3 #[31, 38, 45, 52], 31) := by decide +kernel
theorem dX7_part_32 : decode cX7_part 32 = .ok (.aload_n 0, 1) := by decide +kernel
theorem dX7_part_33 : decode cX7_part 33 = .ok (.getfield 9, 3) := by decide +kernel
theorem dX7_part_36 : decode cX7_part 36 = .ok (.iload_n 1, 1) := by decide +kernel
theorem dX7_part_37 : decode cX7_part 37 = .ok (.iaload, 1) := by decide +kernel
theorem dX7_part_38 : decode cX7_part 38 = .ok (.ireturn, 1) := by decide +kernel
theorem dX7_part_39 : decode cX7_part 39 = .ok (.aload_n 0, 1) := by decide +kernel
theorem dX7_part_40 : decode cX7_part 40 = .ok (.getfield 15, 3) := by decide +kernel
theorem dX7_part_43 : decode cX7_part 43 = .ok (.iload_n 1, 1) := by decide +kernel
theorem dX7_part_44 : decode cX7_part 44 = .ok (.iaload, 1) := by decide +kernel
theorem dX7_part_45 : decode cX7_part 45 = .ok (.ireturn, 1) := by decide +kernel
theorem dX7_part_46 : decode cX7_part 46 = .ok (.aload_n 0, 1) := by decide +kernel
theorem dX7_part_47 : decode cX7_part 47 = .ok (.getfield 18, 3) := by decide +kernel
theorem dX7_part_50 : decode cX7_part 50 = .ok (.iload_n 1, 1) := by decide +kernel
theorem dX7_part_51 : decode cX7_part 51 = .ok (.iaload, 1) := by decide +kernel
theorem dX7_part_52 : decode cX7_part 52 = .ok (.ireturn, 1) := by decide +kernel
theorem dX7_part_53 : decode cX7_part 53 = .ok (.aload_n 0, 1) := by decide +kernel
theorem dX7_part_54 : decode cX7_part 54 = .ok (.getfield 21, 3) := by decide +kernel
theorem dX7_part_57 : decode cX7_part 57 = .ok (.iload_n 1, 1) := by decide +kernel
theorem dX7_part_58 : decode cX7_part 58 = .ok (.iaload, 1) := by decide +kernel
theorem dX7_part_59 : decode cX7_part 59 = .ok (.ireturn, 1) := by decide +kernel
theorem dX7_part_60 : decode cX7_part 60 = .ok (.aload_n 0, 1) := by decide +kernel
theorem dX7_part_61 : decode cX7_part 61 = .ok (.getfield 24, 3) := by decide +kernel
theorem dX7_part_64 : decode cX7_part 64 = .ok (.iload_n 1, 1) := by decide +kernel
theorem dX7_part_65 : decode cX7_part 65 = .ok (.iaload, 1) := by decide +kernel
theorem dX7_part_66 : decode cX7_part 66 = .ok (.ireturn, 1) := by decide +kernel
theorem dX7_become_0 : decode cX7_become 0 = .ok (.aload_n 0, 1) := by decide +kernel
theorem dX7_become_1 : decode cX7_become 1 = .ok (.aload_n 1, 1) := by decide +kernel
theorem dX7_become_2 : decode cX7_become 2 = .ok (.getfield 30, 3) := by decide +kernel
theorem dX7_become_5 : decode cX7_become 5 = .ok (.putfield 30, 3) := by decide +kernel
theorem dX7_become_8 : decode cX7_become 8 = .ok (.aload_n 0, 1) := by decide +kernel
theorem dX7_become_9 : decode cX7_become 9 = .ok (.aload_n 1, 1) := by decide +kernel
theorem dX7_become_10 : decode cX7_become 10 = .ok (.getfield 41, 3) := by decide +kernel
theorem dX7_become_13 : decode cX7_become 13 = .ok (.putfield 41, 3) := by decide +kernel
theorem dX7_become_16 : decode cX7_become 16 = .ok (.aload_n 0, 1) := by decide +kernel
theorem dX7_become_17 : decode cX7_become 17 = .ok (.aload_n 1, 1) := by decide +kernel
theorem dX7_become_18 : decode cX7_become 18 = .ok (.getfield 34, 3) := by decide +kernel
theorem dX7_become_21 : decode cX7_become 21 = .ok (.putfield 34, 3) := by decide +kernel
theorem dX7_become_24 : decode cX7_become 24 = .ok (.iconst 0, 1) := by decide +kernel
theorem dX7_become_25 : decode cX7_become 25 = .ok (.istore_n 2, 1) := by decide +kernel
theorem dX7_become_26 : decode cX7_become 26 = .ok (.iload_n 2, 1) := by decide +kernel
theorem dX7_become_27 : decode cX7_become 27 = .ok (.aload_n 0, 1) := by decide +kernel
theorem dX7_become_28 : decode cX7_become 28 = .ok (.getfield 30, 3) := by decide +kernel
theorem dX7_become_31 : decode cX7_become 31 = .ok (.if_icmp .ge 81, 3) := by decide +kernel
theorem dX7_become_34 : decode cX7_become 34 = .ok (.aload_n 0, 1) := by decide +kernel
theorem dX7_become_35 : decode cX7_become 35 = .ok (.getfield 9, 3) := by decide +kernel
theorem dX7_become_38 : decode cX7_become 38 = .ok (.iload_n 2, 1) := by decide +kernel
theorem dX7_become_39 : decode cX7_become 39 = .ok (.aload_n 1, 1) := by decide +kernel
theorem dX7_become_40 : decode cX7_become 40 = .ok (.getfield 9, 3) := by decide +kernel
theorem dX7_become_43 : decode cX7_become 43 = .ok (.iload_n 2, 1) := by decide +kernel
theorem dX7_become_44 : decode cX7_become 44 = .ok (.iaload, 1) := by decide +kernel
theorem dX7_become_45 : decode cX7_become 45 = .ok (.iastore, 1) := by decide +kernel
theorem dX7_become_46 : decode cX7_become 46 = .ok (.aload_n 0, 1) := by decide +kernel
theorem dX7_become_47 : decode cX7_become 47 = .ok (.getfield 15, 3) := by decide +kernel
theorem dX7_become_50 : decode cX7_become 50 = .ok (.iload_n 2, 1) := by decide +kernel
theorem dX7_become_51 : decode cX7_become 51 = .ok (.aload_n 1, 1) := by decide +kernel
theorem dX7_become_52 : decode cX7_become 52 = .ok (.getfield 15, 3) := by decide +kernel
theorem dX7_become_55 : decode cX7_become 55 = .ok (.iload_n 2, 1) := by decide +kernel
theorem dX7_become_56 : decode cX7_become 56 = .ok (.iaload, 1) := by decide +kernel
theorem dX7_become_57 : decode cX7_become 57 = .ok (.iastore, 1) := by decide +kernel
theorem dX7_become_58 : decode cX7_become 58 = .ok (.aload_n 0, 1) := by decide +kernel
theorem dX7_become_59 : decode cX7_become 59 = .ok (.getfield 18, 3) := by decide +kernel
theorem dX7_become_62 : decode cX7_become 62 = .ok (.iload_n 2, 1) := by decide +kernel
theorem dX7_become_63 : decode cX7_become 63 = .ok (.aload_n 1, 1) := by decide +kernel
theorem dX7_become_64 : decode cX7_become 64 = .ok (.getfield 18, 3) := by decide +kernel
theorem dX7_become_67 : decode cX7_become 67 = .ok (.iload_n 2, 1) := by decide +kernel
theorem dX7_become_68 : decode cX7_become 68 = .ok (.iaload, 1) := by decide +kernel
theorem dX7_become_69 : decode cX7_become 69 = .ok (.iastore, 1) := by decide +kernel
theorem dX7_become_70 : decode cX7_become 70 = .ok (.aload_n 0, 1) := by decide +kernel
theorem dX7_become_71 : decode cX7_become 71 = .ok (.getfield 21, 3) := by decide +kernel
theorem dX7_become_74 : decode cX7_become 74 = .ok (.iload_n 2, 1) := by decide +kernel
theorem dX7_become_75 : decode cX7_become 75 = .ok (.aload_n 1, 1) := by decide +kernel
theorem dX7_become_76 : decode cX7_become 76 = .ok (.getfield 21, 3) := by decide +kernel
theorem dX7_become_79 : decode cX7_become 79 = .ok (.iload_n 2, 1) := by decide +kernel
theorem dX7_become_80 : decode cX7_become 80 = .ok (.iaload, 1) := by decide +kernel
theorem dX7_become_81 : decode cX7_become 81 = .ok (.iastore, 1) := by decide +kernel
theorem dX7_become_82 : decode cX7_become 82 = .ok (.aload_n 0, 1) := by decide +kernel
theorem dX7_become_83 : decode cX7_become 83 = .ok (.getfield 24, 3) := by decide +kernel
theorem dX7_become_86 : decode cX7_become 86 = .ok (.iload_n 2, 1) := by decide +kernel
theorem dX7_become_87 : decode cX7_become 87 = .ok (.aload_n 1, 1) := by decide +kernel
theorem dX7_become_88 : decode cX7_become 88 = .ok (.getfield 24, 3) := by decide +kernel
theorem dX7_become_91 : decode cX7_become 91 = .ok (.iload_n 2, 1) := by decide +kernel
theorem dX7_become_92 : decode cX7_become 92 = .ok (.iaload, 1) := by decide +kernel
theorem dX7_become_93 : decode cX7_become 93 = .ok (.iastore, 1) := by decide +kernel
theorem dX7_become_94 : decode cX7_become 94 = .ok (.aload_n 0, 1) := by decide +kernel
theorem dX7_become_95 : decode cX7_become 95 = .ok (.getfield 27, 3) := by decide +kernel
theorem dX7_become_98 : decode cX7_become 98 = .ok (.iload_n 2, 1) := by decide +kernel
theorem dX7_become_99 : decode cX7_become 99 = .ok (.aload_n 1, 1) := by decide +kernel
theorem dX7_become_100 : decode cX7_become 100 = .ok (.getfield 27, 3) := by decide +kernel
theorem dX7_become_103 : decode cX7_become 103 = .ok (.iload_n 2, 1) := by decide +kernel
theorem dX7_become_104 : decode cX7_become 104 = .ok (.iaload, 1) := by decide +kernel
theorem dX7_become_105 : decode cX7_become 105 = .ok (.iastore, 1) := by decide +kernel
theorem dX7_become_106 : decode cX7_become 106 = .ok (.iinc 2 1, 3) := by decide +kernel
theorem dX7_become_109 : decode cX7_become 109 = .ok (.goto (-83), 3) := by decide +kernel
theorem dX7_become_112 : decode cX7_become 112 = .ok (.return_, 1) := by decide +kernel
theorem dX7_tells_0 : decode cX7_tells 0 = .ok (.iconst 0, 1) := by decide +kernel
theorem dX7_tells_1 : decode cX7_tells 1 = .ok (.istore_n 3, 1) := by decide +kernel
theorem dX7_tells_2 : decode cX7_tells 2 = .ok (.iload_n 3, 1) := by decide +kernel
theorem dX7_tells_3 : decode cX7_tells 3 = .ok (.aload_n 0, 1) := by decide +kernel
theorem dX7_tells_4 : decode cX7_tells 4 = .ok (.getfield 37, 3) := by decide +kernel
theorem dX7_tells_7 : decode cX7_tells 7 = .ok (.getfield 53, 3) := by decide +kernel
theorem dX7_tells_10 : decode cX7_tells 10 = .ok (.if_icmp .ge 60, 3) := by decide +kernel
theorem dX7_tells_13 : decode cX7_tells 13 = .ok (.aload_n 0, 1) := by decide +kernel
theorem dX7_tells_14 : decode cX7_tells 14 = .ok (.getfield 34, 3) := by decide +kernel
theorem dX7_tells_17 : decode cX7_tells 17 = .ok (.iload_n 3, 1) := by decide +kernel
theorem dX7_tells_18 : decode cX7_tells 18 = .ok (.ishr, 1) := by decide +kernel
theorem dX7_tells_19 : decode cX7_tells 19 = .ok (.iconst 1, 1) := by decide +kernel
theorem dX7_tells_20 : decode cX7_tells 20 = .ok (.iand, 1) := by decide +kernel
theorem dX7_tells_21 : decode cX7_tells 21 = .ok (.ifCond .ne 7, 3) := by decide +kernel
theorem dX7_tells_24 : decode cX7_tells 24 = .ok (.iconst 1, 1) := by decide +kernel
theorem dX7_tells_25 : decode cX7_tells 25 = .ok (.goto 4, 3) := by decide +kernel
theorem dX7_tells_28 : decode cX7_tells 28 = .ok (.iconst 0, 1) := by decide +kernel
theorem dX7_tells_29 : decode cX7_tells 29 = .ok (.istore 4, 2) := by decide +kernel
theorem dX7_tells_31 : decode cX7_tells 31 = .ok (.iload 4, 2) := by decide +kernel
theorem dX7_tells_33 : decode cX7_tells 33 = .ok (.ifCond .eq 31, 3) := by decide +kernel
theorem dX7_tells_36 : decode cX7_tells 36 = .ok (.aload_n 0, 1) := by decide +kernel
theorem dX7_tells_37 : decode cX7_tells 37 = .ok (.getfield 37, 3) := by decide +kernel
theorem dX7_tells_40 : decode cX7_tells 40 = .ok (.getfield 56, 3) := by decide +kernel
theorem dX7_tells_43 : decode cX7_tells 43 = .ok (.iload_n 3, 1) := by decide +kernel
theorem dX7_tells_44 : decode cX7_tells 44 = .ok (.iaload, 1) := by decide +kernel
theorem dX7_tells_45 : decode cX7_tells 45 = .ok (.iload_n 1, 1) := by decide +kernel
theorem dX7_tells_46 : decode cX7_tells 46 = .ok (.if_icmp .ne 18, 3) := by decide +kernel
theorem dX7_tells_49 : decode cX7_tells 49 = .ok (.aload_n 0, 1) := by decide +kernel
theorem dX7_tells_50 : decode cX7_tells 50 = .ok (.getfield 37, 3) := by decide +kernel
theorem dX7_tells_53 : decode cX7_tells 53 = .ok (.getfield 59, 3) := by decide +kernel
theorem dX7_tells_56 : decode cX7_tells 56 = .ok (.iload_n 3, 1) := by decide +kernel
theorem dX7_tells_57 : decode cX7_tells 57 = .ok (.iaload, 1) := by decide +kernel
theorem dX7_tells_58 : decode cX7_tells 58 = .ok (.iload_n 2, 1) := by decide +kernel
theorem dX7_tells_59 : decode cX7_tells 59 = .ok (.if_icmp .ne 5, 3) := by decide +kernel
theorem dX7_tells_62 : decode cX7_tells 62 = .ok (.iconst 1, 1) := by decide +kernel
theorem dX7_tells_63 : decode cX7_tells 63 = .ok (.ireturn, 1) := by decide +kernel
theorem dX7_tells_64 : decode cX7_tells 64 = .ok (.iinc 3 1, 3) := by decide +kernel
theorem dX7_tells_67 : decode cX7_tells 67 = .ok (.goto (-65), 3) := by decide +kernel
theorem dX7_tells_70 : decode cX7_tells 70 = .ok (.iconst 0, 1) := by decide +kernel
theorem dX7_tells_71 : decode cX7_tells 71 = .ok (.ireturn, 1) := by decide +kernel
theorem dX7_swapQuestions_0 : decode cX7_swapQuestions 0 = .ok (.aload_n 0, 1) := by decide +kernel
theorem dX7_swapQuestions_1 : decode cX7_swapQuestions 1 = .ok (.getfield 18, 3) := by decide +kernel
theorem dX7_swapQuestions_4 : decode cX7_swapQuestions 4 = .ok (.iload_n 1, 1) := by decide +kernel
theorem dX7_swapQuestions_5 : decode cX7_swapQuestions 5 = .ok (.iaload, 1) := by decide +kernel
theorem dX7_swapQuestions_6 : decode cX7_swapQuestions 6 = .ok (.istore_n 3, 1) := by decide +kernel
theorem dX7_swapQuestions_7 : decode cX7_swapQuestions 7 = .ok (.aload_n 0, 1) := by decide +kernel
theorem dX7_swapQuestions_8 : decode cX7_swapQuestions 8 = .ok (.getfield 21, 3) := by decide +kernel
theorem dX7_swapQuestions_11 : decode cX7_swapQuestions 11 = .ok (.iload_n 1, 1) := by decide +kernel
theorem dX7_swapQuestions_12 : decode cX7_swapQuestions 12 = .ok (.iaload, 1) := by decide +kernel
theorem dX7_swapQuestions_13 : decode cX7_swapQuestions 13 = .ok (.istore 4, 2) := by decide +kernel
theorem dX7_swapQuestions_15 : decode cX7_swapQuestions 15 = .ok (.aload_n 0, 1) := by decide +kernel
theorem dX7_swapQuestions_16 : decode cX7_swapQuestions 16 = .ok (.getfield 18, 3) := by decide +kernel
theorem dX7_swapQuestions_19 : decode cX7_swapQuestions 19 = .ok (.iload_n 1, 1) := by decide +kernel
theorem dX7_swapQuestions_20 : decode cX7_swapQuestions 20 = .ok (.aload_n 0, 1) := by decide +kernel
theorem dX7_swapQuestions_21 : decode cX7_swapQuestions 21 = .ok (.getfield 18, 3) := by decide +kernel
theorem dX7_swapQuestions_24 : decode cX7_swapQuestions 24 = .ok (.iload_n 2, 1) := by decide +kernel
theorem dX7_swapQuestions_25 : decode cX7_swapQuestions 25 = .ok (.iaload, 1) := by decide +kernel
theorem dX7_swapQuestions_26 : decode cX7_swapQuestions 26 = .ok (.iastore, 1) := by decide +kernel
theorem dX7_swapQuestions_27 : decode cX7_swapQuestions 27 = .ok (.aload_n 0, 1) := by decide +kernel
theorem dX7_swapQuestions_28 : decode cX7_swapQuestions 28 = .ok (.getfield 21, 3) := by decide +kernel
theorem dX7_swapQuestions_31 : decode cX7_swapQuestions 31 = .ok (.iload_n 1, 1) := by decide +kernel
theorem dX7_swapQuestions_32 : decode cX7_swapQuestions 32 = .ok (.aload_n 0, 1) := by decide +kernel
theorem dX7_swapQuestions_33 : decode cX7_swapQuestions 33 = .ok (.getfield 21, 3) := by decide +kernel
theorem dX7_swapQuestions_36 : decode cX7_swapQuestions 36 = .ok (.iload_n 2, 1) := by decide +kernel
theorem dX7_swapQuestions_37 : decode cX7_swapQuestions 37 = .ok (.iaload, 1) := by decide +kernel
theorem dX7_swapQuestions_38 : decode cX7_swapQuestions 38 = .ok (.iastore, 1) := by decide +kernel
theorem dX7_swapQuestions_39 : decode cX7_swapQuestions 39 = .ok (.aload_n 0, 1) := by decide +kernel
theorem dX7_swapQuestions_40 : decode cX7_swapQuestions 40 = .ok (.getfield 18, 3) := by decide +kernel
theorem dX7_swapQuestions_43 : decode cX7_swapQuestions 43 = .ok (.iload_n 2, 1) := by decide +kernel
theorem dX7_swapQuestions_44 : decode cX7_swapQuestions 44 = .ok (.iload_n 3, 1) := by decide +kernel
theorem dX7_swapQuestions_45 : decode cX7_swapQuestions 45 = .ok (.iastore, 1) := by decide +kernel
theorem dX7_swapQuestions_46 : decode cX7_swapQuestions 46 = .ok (.aload_n 0, 1) := by decide +kernel
theorem dX7_swapQuestions_47 : decode cX7_swapQuestions 47 = .ok (.getfield 21, 3) := by decide +kernel
theorem dX7_swapQuestions_50 : decode cX7_swapQuestions 50 = .ok (.iload_n 2, 1) := by decide +kernel
theorem dX7_swapQuestions_51 : decode cX7_swapQuestions 51 = .ok (.iload 4, 2) := by decide +kernel
theorem dX7_swapQuestions_53 : decode cX7_swapQuestions 53 = .ok (.iastore, 1) := by decide +kernel
theorem dX7_swapQuestions_54 : decode cX7_swapQuestions 54 = .ok (.return_, 1) := by decide +kernel
theorem dX8_init_0 : decode cX8_init 0 = .ok (.aload_n 0, 1) := by decide +kernel
theorem dX8_init_1 : decode cX8_init 1 = .ok (.invokespecial 3, 3) := by decide +kernel
theorem dX8_init_4 : decode cX8_init 4 = .ok (.aload_n 0, 1) := by decide +kernel
theorem dX8_init_5 : decode cX8_init 5 = .ok (.bipush 60, 2) := by decide +kernel
theorem dX8_init_7 : decode cX8_init 7 = .ok (.newarray .int, 2) := by decide +kernel
theorem dX8_init_9 : decode cX8_init 9 = .ok (.putfield 9, 3) := by decide +kernel
theorem dX8_init_12 : decode cX8_init 12 = .ok (.aload_n 0, 1) := by decide +kernel
theorem dX8_init_13 : decode cX8_init 13 = .ok (.iconst 0, 1) := by decide +kernel
theorem dX8_init_14 : decode cX8_init 14 = .ok (.putfield 15, 3) := by decide +kernel
theorem dX8_init_17 : decode cX8_init 17 = .ok (.aload_n 0, 1) := by decide +kernel
theorem dX8_init_18 : decode cX8_init 18 = .ok (.iconst 0, 1) := by decide +kernel
theorem dX8_init_19 : decode cX8_init 19 = .ok (.putfield 19, 3) := by decide +kernel
theorem dX8_init_22 : decode cX8_init 22 = .ok (.aload_n 0, 1) := by decide +kernel
theorem dX8_init_23 : decode cX8_init 23 = .ok (.iconst 1, 1) := by decide +kernel
theorem dX8_init_24 : decode cX8_init 24 = .ok (.putfield 22, 3) := by decide +kernel
theorem dX8_init_27 : decode cX8_init 27 = .ok (.return_, 1) := by decide +kernel
theorem dX8_renew_0 : decode cX8_renew 0 = .ok (.aload_n 0, 1) := by decide +kernel
theorem dX8_renew_1 : decode cX8_renew 1 = .ok (.iload_n 1, 1) := by decide +kernel
theorem dX8_renew_2 : decode cX8_renew 2 = .ok (.putfield 15, 3) := by decide +kernel
theorem dX8_renew_5 : decode cX8_renew 5 = .ok (.aload_n 0, 1) := by decide +kernel
theorem dX8_renew_6 : decode cX8_renew 6 = .ok (.iload_n 2, 1) := by decide +kernel
theorem dX8_renew_7 : decode cX8_renew 7 = .ok (.putfield 19, 3) := by decide +kernel
theorem dX8_renew_10 : decode cX8_renew 10 = .ok (.aload_n 0, 1) := by decide +kernel
theorem dX8_renew_11 : decode cX8_renew 11 = .ok (.iconst 0, 1) := by decide +kernel
theorem dX8_renew_12 : decode cX8_renew 12 = .ok (.putfield 22, 3) := by decide +kernel
theorem dX8_renew_15 : decode cX8_renew 15 = .ok (.iconst 0, 1) := by decide +kernel
theorem dX8_renew_16 : decode cX8_renew 16 = .ok (.istore_n 3, 1) := by decide +kernel
theorem dX8_renew_17 : decode cX8_renew 17 = .ok (.iload_n 3, 1) := by decide +kernel
theorem dX8_renew_18 : decode cX8_renew 18 = .ok (.bipush 60, 2) := by decide +kernel
theorem dX8_renew_20 : decode cX8_renew 20 = .ok (.if_icmp .ge 16, 3) := by decide +kernel
theorem dX8_renew_23 : decode cX8_renew 23 = .ok (.aload_n 0, 1) := by decide +kernel
theorem dX8_renew_24 : decode cX8_renew 24 = .ok (.getfield 9, 3) := by decide +kernel
theorem dX8_renew_27 : decode cX8_renew 27 = .ok (.iload_n 3, 1) := by decide +kernel
theorem dX8_renew_28 : decode cX8_renew 28 = .ok (.iconst 0, 1) := by decide +kernel
theorem dX8_renew_29 : decode cX8_renew 29 = .ok (.iastore, 1) := by decide +kernel
theorem dX8_renew_30 : decode cX8_renew 30 = .ok (.iinc 3 1, 3) := by decide +kernel
theorem dX8_renew_33 : decode cX8_renew 33 = .ok (.goto (-16), 3) := by decide +kernel
end
section
theorem dX8_renew_36 : decode cX8_renew 36 = .ok (.return_, 1) := by decide +kernel
theorem dX8_put_0 : decode cX8_put 0 = .ok (.aload_n 0, 1) := by decide +kernel
theorem dX8_put_1 : decode cX8_put 1 = .ok (.getfield 9, 3) := by decide +kernel
theorem dX8_put_4 : decode cX8_put 4 = .ok (.iload_n 1, 1) := by decide +kernel
theorem dX8_put_5 : decode cX8_put 5 = .ok (.aload_n 0, 1) := by decide +kernel
theorem dX8_put_6 : decode cX8_put 6 = .ok (.getfield 15, 3) := by decide +kernel
theorem dX8_put_9 : decode cX8_put 9 = .ok (.ifCond .ne 8, 3) := by decide +kernel
theorem dX8_put_12 : decode cX8_put 12 = .ok (.iload_n 2, 1) := by decide +kernel
theorem dX8_put_13 : decode cX8_put 13 = .ok (.i2b, 1) := by decide +kernel
theorem dX8_put_14 : decode cX8_put 14 = .ok (.goto 17, 3) := by decide +kernel
theorem dX8_put_17 : decode cX8_put 17 = .ok (.aload_n 0, 1) := by decide +kernel
theorem dX8_put_18 : decode cX8_put 18 = .ok (.getfield 15, 3) := by decide +kernel
theorem dX8_put_21 : decode cX8_put 21 = .ok (.iconst 1, 1) := by decide +kernel
theorem dX8_put_22 : decode cX8_put 22 = .ok (.if_icmp .ne 8, 3) := by decide +kernel
theorem dX8_put_25 : decode cX8_put 25 = .ok (.iload_n 2, 1) := by decide +kernel
theorem dX8_put_26 : decode cX8_put 26 = .ok (.i2s, 1) := by decide +kernel
theorem dX8_put_27 : decode cX8_put 27 = .ok (.goto 4, 3) := by decide +kernel
theorem dX8_put_30 : decode cX8_put 30 = .ok (.iload_n 2, 1) := by decide +kernel
theorem dX8_put_31 : decode cX8_put 31 = .ok (.iastore, 1) := by decide +kernel
theorem dX8_put_32 : decode cX8_put 32 = .ok (.return_, 1) := by decide +kernel
theorem dX8_has_0 : decode cX8_has 0 = .ok (.iload_n 1, 1) := by decide +kernel
theorem dX8_has_1 : decode cX8_has 1 = .ok (.ifCond .lt 29, 3) := by decide +kernel
theorem dX8_has_4 : decode cX8_has 4 = .ok (.iload_n 2, 1) := by decide +kernel
theorem dX8_has_5 : decode cX8_has 5 = .ok (.ifCond .lt 25, 3) := by decide +kernel
theorem dX8_has_8 : decode cX8_has 8 = .ok (.iload_n 2, 1) := by decide +kernel
theorem dX8_has_9 : decode cX8_has 9 = .ok (.aload_n 0, 1) := by decide +kernel
theorem dX8_has_10 : decode cX8_has 10 = .ok (.getfield 19, 3) := by decide +kernel
theorem dX8_has_13 : decode cX8_has 13 = .ok (.if_icmp .gt 17, 3) := by decide +kernel
theorem dX8_has_16 : decode cX8_has 16 = .ok (.iload_n 1, 1) := by decide +kernel
theorem dX8_has_17 : decode cX8_has 17 = .ok (.aload_n 0, 1) := by decide +kernel
theorem dX8_has_18 : decode cX8_has 18 = .ok (.getfield 19, 3) := by decide +kernel
theorem dX8_has_21 : decode cX8_has 21 = .ok (.iload_n 2, 1) := by decide +kernel
theorem dX8_has_22 : decode cX8_has 22 = .ok (.isub, 1) := by decide +kernel
theorem dX8_has_23 : decode cX8_has 23 = .ok (.if_icmp .gt 7, 3) := by decide +kernel
theorem dX8_has_26 : decode cX8_has 26 = .ok (.iconst 1, 1) := by decide +kernel
theorem dX8_has_27 : decode cX8_has 27 = .ok (.goto 4, 3) := by decide +kernel
theorem dX8_has_30 : decode cX8_has 30 = .ok (.iconst 0, 1) := by decide +kernel
theorem dX8_has_31 : decode cX8_has 31 = .ok (.ireturn, 1) := by decide +kernel
theorem dX9_init_0 : decode cX9_init 0 = .ok (.aload_n 0, 1) := by decide +kernel
theorem dX9_init_1 : decode cX9_init 1 = .ok (.invokespecial 3, 3) := by decide +kernel
theorem dX9_init_4 : decode cX9_init 4 = .ok (.aload_n 0, 1) := by decide +kernel
theorem dX9_init_5 : decode cX9_init 5 = .ok (.iconst 0, 1) := by decide +kernel
theorem dX9_init_6 : decode cX9_init 6 = .ok (.putfield 9, 3) := by decide +kernel
theorem dX9_init_9 : decode cX9_init 9 = .ok (.aload_n 0, 1) := by decide +kernel
theorem dX9_init_10 : decode cX9_init 10 = .ok (.iconst (-1), 1) := by decide +kernel
theorem dX9_init_11 : decode cX9_init 11 = .ok (.putfield 15, 3) := by decide +kernel
theorem dX9_init_14 : decode cX9_init 14 = .ok (.aload_n 0, 1) := by decide +kernel
theorem dX9_init_15 : decode cX9_init 15 = .ok (.iconst 0, 1) := by decide +kernel
theorem dX9_init_16 : decode cX9_init 16 = .ok (.putfield 18, 3) := by decide +kernel
theorem dX9_init_19 : decode cX9_init 19 = .ok (.aload_n 0, 1) := by decide +kernel
theorem dX9_init_20 : decode cX9_init 20 = .ok (.aload_n 1, 1) := by decide +kernel
theorem dX9_init_21 : decode cX9_init 21 = .ok (.putfield 21, 3) := by decide +kernel
theorem dX9_init_24 : decode cX9_init 24 = .ok (.aload_n 0, 1) := by decide +kernel
theorem dX9_init_25 : decode cX9_init 25 = .ok (.iload_n 2, 1) := by decide +kernel
theorem dX9_init_26 : decode cX9_init 26 = .ok (.putfield 25, 3) := by decide +kernel
theorem dX9_init_29 : decode cX9_init 29 = .ok (.aload_n 0, 1) := by decide +kernel
theorem dX9_init_30 : decode cX9_init 30 = .ok (.iconst 0, 1) := by decide +kernel
theorem dX9_init_31 : decode cX9_init 31 = .ok (.aload_n 1, 1) := by decide +kernel
theorem dX9_init_32 : decode cX9_init 32 = .ok (.arraylength, 1) := by decide +kernel
theorem dX9_init_33 : decode cX9_init 33 = .ok (.iload_n 2, 1) := by decide +kernel
theorem dX9_init_34 : decode cX9_init 34 = .ok (.imul, 1) := by decide +kernel
theorem dX9_init_35 : decode cX9_init 35 = .ok (.iconst 1, 1) := by decide +kernel
theorem dX9_init_36 : decode cX9_init 36 = .ok (.isub, 1) := by decide +kernel
theorem dX9_init_37 : decode cX9_init 37 = .ok (.invokestatic 28, 3) := by decide +kernel
theorem dX9_init_40 : decode cX9_init 40 = .ok (.newarray .int, 2) := by decide +kernel
theorem dX9_init_42 : decode cX9_init 42 = .ok (.putfield 34, 3) := by decide +kernel
theorem dX9_init_45 : decode cX9_init 45 = .ok (.return_, 1) := by decide +kernel
theorem dX9_isFull_0 : decode cX9_isFull 0 = .ok (.aload_n 0, 1) := by decide +kernel
theorem dX9_isFull_1 : decode cX9_isFull 1 = .ok (.getfield 9, 3) := by decide +kernel
theorem dX9_isFull_4 : decode cX9_isFull 4 = .ok (.aload_n 0, 1) := by decide +kernel
theorem dX9_isFull_5 : decode cX9_isFull 5 = .ok (.getfield 34, 3) := by decide +kernel
theorem dX9_isFull_8 : decode cX9_isFull 8 = .ok (.arraylength, 1) := by decide +kernel
theorem dX9_isFull_9 : decode cX9_isFull 9 = .ok (.if_icmp .lt 7, 3) := by decide +kernel
theorem dX9_isFull_12 : decode cX9_isFull 12 = .ok (.iconst 1, 1) := by decide +kernel
theorem dX9_isFull_13 : decode cX9_isFull 13 = .ok (.goto 4, 3) := by decide +kernel
theorem dX9_isFull_16 : decode cX9_isFull 16 = .ok (.iconst 0, 1) := by decide +kernel
theorem dX9_isFull_17 : decode cX9_isFull 17 = .ok (.ireturn, 1) := by decide +kernel
theorem dX9_push_0 : decode cX9_push 0 = .ok (.aload_n 0, 1) := by decide +kernel
theorem dX9_push_1 : decode cX9_push 1 = .ok (.getfield 34, 3) := by decide +kernel
theorem dX9_push_4 : decode cX9_push 4 = .ok (.aload_n 0, 1) := by decide +kernel
theorem dX9_push_5 : decode cX9_push 5 = .ok (.getfield 9, 3) := by decide +kernel
theorem dX9_push_8 : decode cX9_push 8 = .ok (.iload_n 1, 1) := by decide +kernel
theorem dX9_push_9 : decode cX9_push 9 = .ok (.iastore, 1) := by decide +kernel
theorem dX9_push_10 : decode cX9_push 10 = .ok (.aload_n 0, 1) := by decide +kernel
theorem dX9_push_11 : decode cX9_push 11 = .ok (.dup, 1) := by decide +kernel
theorem dX9_push_12 : decode cX9_push 12 = .ok (.getfield 9, 3) := by decide +kernel
theorem dX9_push_15 : decode cX9_push 15 = .ok (.iconst 1, 1) := by decide +kernel
theorem dX9_push_16 : decode cX9_push 16 = .ok (.iadd, 1) := by decide +kernel
theorem dX9_push_17 : decode cX9_push 17 = .ok (.putfield 9, 3) := by decide +kernel
theorem dX9_push_20 : decode cX9_push 20 = .ok (.aload_n 0, 1) := by decide +kernel
theorem dX9_push_21 : decode cX9_push 21 = .ok (.invokevirtual 37, 3) := by decide +kernel
theorem dX9_push_24 : decode cX9_push 24 = .ok (.return_, 1) := by decide +kernel
theorem dX9_cutTo_0 : decode cX9_cutTo 0 = .ok (.aload_n 0, 1) := by decide +kernel
theorem dX9_cutTo_1 : decode cX9_cutTo 1 = .ok (.iload_n 1, 1) := by decide +kernel
theorem dX9_cutTo_2 : decode cX9_cutTo 2 = .ok (.putfield 9, 3) := by decide +kernel
theorem dX9_cutTo_5 : decode cX9_cutTo 5 = .ok (.aload_n 0, 1) := by decide +kernel
theorem dX9_cutTo_6 : decode cX9_cutTo 6 = .ok (.invokevirtual 37, 3) := by decide +kernel
theorem dX9_cutTo_9 : decode cX9_cutTo 9 = .ok (.return_, 1) := by decide +kernel
theorem dX9_judge_0 : decode cX9_judge 0 = .ok (.iconst 0, 1) := by decide +kernel
theorem dX9_judge_1 : decode cX9_judge 1 = .ok (.istore_n 1, 1) := by decide +kernel
theorem dX9_judge_2 : decode cX9_judge 2 = .ok (.iconst 0, 1) := by decide +kernel
theorem dX9_judge_3 : decode cX9_judge 3 = .ok (.istore_n 2, 1) := by decide +kernel
theorem dX9_judge_4 : decode cX9_judge 4 = .ok (.aload_n 0, 1) := by decide +kernel
theorem dX9_judge_5 : decode cX9_judge 5 = .ok (.iconst 0, 1) := by decide +kernel
theorem dX9_judge_6 : decode cX9_judge 6 = .ok (.putfield 18, 3) := by decide +kernel
theorem dX9_judge_9 : decode cX9_judge 9 = .ok (.iconst 0, 1) := by decide +kernel
theorem dX9_judge_10 : decode cX9_judge 10 = .ok (.istore_n 3, 1) := by decide +kernel
theorem dX9_judge_11 : decode cX9_judge 11 = .ok (.iload_n 3, 1) := by decide +kernel
theorem dX9_judge_12 : decode cX9_judge 12 = .ok (.aload_n 0, 1) := by decide +kernel
theorem dX9_judge_13 : decode cX9_judge 13 = .ok (.getfield 9, 3) := by decide +kernel
theorem dX9_judge_16 : decode cX9_judge 16 = .ok (.if_icmp .ge 49, 3) := by decide +kernel
theorem dX9_judge_19 : decode cX9_judge 19 = .ok (.iload_n 2, 1) := by decide +kernel
theorem dX9_judge_20 : decode cX9_judge 20 = .ok (.aload_n 0, 1) := by decide +kernel
theorem dX9_judge_21 : decode cX9_judge 21 = .ok (.getfield 25, 3) := by decide +kernel
theorem dX9_judge_24 : decode cX9_judge 24 = .ok (.if_icmp .ge 12, 3) := by decide +kernel
theorem dX9_judge_27 : decode cX9_judge 27 = .ok (.aload_n 0, 1) := by decide +kernel
theorem dX9_judge_28 : decode cX9_judge 28 = .ok (.iload_n 1, 1) := by decide +kernel
theorem dX9_judge_29 : decode cX9_judge 29 = .ok (.iload_n 3, 1) := by decide +kernel
theorem dX9_judge_30 : decode cX9_judge 30 = .ok (.invokevirtual 40, 3) := by decide +kernel
theorem dX9_judge_33 : decode cX9_judge 33 = .ok (.ifCond .ne 9, 3) := by decide +kernel
theorem dX9_judge_36 : decode cX9_judge 36 = .ok (.aload_n 0, 1) := by decide +kernel
theorem dX9_judge_37 : decode cX9_judge 37 = .ok (.iload_n 3, 1) := by decide +kernel
theorem dX9_judge_38 : decode cX9_judge 38 = .ok (.putfield 15, 3) := by decide +kernel
theorem dX9_judge_41 : decode cX9_judge 41 = .ok (.return_, 1) := by decide +kernel
theorem dX9_judge_42 : decode cX9_judge 42 = .ok (.iinc 1 1, 3) := by decide +kernel
theorem dX9_judge_45 : decode cX9_judge 45 = .ok (.iload_n 1, 1) := by decide +kernel
theorem dX9_judge_46 : decode cX9_judge 46 = .ok (.aload_n 0, 1) := by decide +kernel
theorem dX9_judge_47 : decode cX9_judge 47 = .ok (.getfield 21, 3) := by decide +kernel
theorem dX9_judge_50 : decode cX9_judge 50 = .ok (.arraylength, 1) := by decide +kernel
theorem dX9_judge_51 : decode cX9_judge 51 = .ok (.if_icmp .ne 8, 3) := by decide +kernel
theorem dX9_judge_54 : decode cX9_judge 54 = .ok (.iconst 0, 1) := by decide +kernel
theorem dX9_judge_55 : decode cX9_judge 55 = .ok (.istore_n 1, 1) := by decide +kernel
theorem dX9_judge_56 : decode cX9_judge 56 = .ok (.iinc 2 1, 3) := by decide +kernel
theorem dX9_judge_59 : decode cX9_judge 59 = .ok (.iinc 3 1, 3) := by decide +kernel
theorem dX9_judge_62 : decode cX9_judge 62 = .ok (.goto (-51), 3) := by decide +kernel
theorem dX9_judge_65 : decode cX9_judge 65 = .ok (.iload_n 1, 1) := by decide +kernel
theorem dX9_judge_66 : decode cX9_judge 66 = .ok (.aload_n 0, 1) := by decide +kernel
theorem dX9_judge_67 : decode cX9_judge 67 = .ok (.getfield 21, 3) := by decide +kernel
theorem dX9_judge_70 : decode cX9_judge 70 = .ok (.arraylength, 1) := by decide +kernel
theorem dX9_judge_71 : decode cX9_judge 71 = .ok (.iconst 1, 1) := by decide +kernel
theorem dX9_judge_72 : decode cX9_judge 72 = .ok (.isub, 1) := by decide +kernel
theorem dX9_judge_73 : decode cX9_judge 73 = .ok (.if_icmp .ne 7, 3) := by decide +kernel
theorem dX9_judge_76 : decode cX9_judge 76 = .ok (.iconst 1, 1) := by decide +kernel
theorem dX9_judge_77 : decode cX9_judge 77 = .ok (.goto 4, 3) := by decide +kernel
theorem dX9_judge_80 : decode cX9_judge 80 = .ok (.iconst 0, 1) := by decide +kernel
theorem dX9_judge_81 : decode cX9_judge 81 = .ok (.istore_n 3, 1) := by decide +kernel
theorem dX9_judge_82 : decode cX9_judge 82 = .ok (.aload_n 0, 1) := by decide +kernel
theorem dX9_judge_83 : decode cX9_judge 83 = .ok (.aload_n 0, 1) := by decide +kernel
theorem dX9_judge_84 : decode cX9_judge 84 = .ok (.getfield 9, 3) := by decide +kernel
theorem dX9_judge_87 : decode cX9_judge 87 = .ok (.ifCond .eq 7, 3) := by decide +kernel
theorem dX9_judge_90 : decode cX9_judge 90 = .ok (.iload_n 3, 1) := by decide +kernel
theorem dX9_judge_91 : decode cX9_judge 91 = .ok (.ifCond .eq 7, 3) := by decide +kernel
theorem dX9_judge_94 : decode cX9_judge 94 = .ok (.iconst (-1), 1) := by decide +kernel
theorem dX9_judge_95 : decode cX9_judge 95 = .ok (.goto 7, 3) := by decide +kernel
theorem dX9_judge_98 : decode cX9_judge 98 = .ok (.aload_n 0, 1) := by decide +kernel
theorem dX9_judge_99 : decode cX9_judge 99 = .ok (.getfield 9, 3) := by decide +kernel
theorem dX9_judge_102 : decode cX9_judge 102 = .ok (.putfield 15, 3) := by decide +kernel
theorem dX9_judge_105 : decode cX9_judge 105 = .ok (.aload_n 0, 1) := by decide +kernel
theorem dX9_judge_106 : decode cX9_judge 106 = .ok (.iload_n 3, 1) := by decide +kernel
theorem dX9_judge_107 : decode cX9_judge 107 = .ok (.ifCond .eq 9, 3) := by decide +kernel
theorem dX9_judge_110 : decode cX9_judge 110 = .ok (.iload_n 2, 1) := by decide +kernel
theorem dX9_judge_111 : decode cX9_judge 111 = .ok (.iconst 1, 1) := by decide +kernel
theorem dX9_judge_112 : decode cX9_judge 112 = .ok (.iadd, 1) := by decide +kernel
theorem dX9_judge_113 : decode cX9_judge 113 = .ok (.goto 4, 3) := by decide +kernel
theorem dX9_judge_116 : decode cX9_judge 116 = .ok (.iconst 0, 1) := by decide +kernel
theorem dX9_judge_117 : decode cX9_judge 117 = .ok (.putfield 18, 3) := by decide +kernel
theorem dX9_judge_120 : decode cX9_judge 120 = .ok (.return_, 1) := by decide +kernel
theorem dX9_fits_0 : decode cX9_fits 0 = .ok (.aload_n 0, 1) := by decide +kernel
theorem dX9_fits_1 : decode cX9_fits 1 = .ok (.getfield 34, 3) := by decide +kernel
theorem dX9_fits_4 : decode cX9_fits 4 = .ok (.iload_n 2, 1) := by decide +kernel
theorem dX9_fits_5 : decode cX9_fits 5 = .ok (.iaload, 1) := by decide +kernel
theorem dX9_fits_6 : decode cX9_fits 6 = .ok (.istore_n 3, 1) := by decide +kernel
theorem dX9_fits_7 : decode cX9_fits 7 = .ok (.iload_n 3, 1) := by decide +kernel
theorem dX9_fits_8 : decode cX9_fits 8 = .ok (.bipush 97, 2) := by decide +kernel
theorem dX9_fits_10 : decode cX9_fits 10 = .ok (.if_icmp .lt 13, 3) := by decide +kernel
theorem dX9_fits_13 : decode cX9_fits 13 = .ok (.iload_n 3, 1) := by decide +kernel
theorem dX9_fits_14 : decode cX9_fits 14 = .ok (.bipush 105, 2) := by decide +kernel
theorem dX9_fits_16 : decode cX9_fits 16 = .ok (.if_icmp .ge 7, 3) := by decide +kernel
theorem dX9_fits_19 : decode cX9_fits 19 = .ok (.iconst 1, 1) := by decide +kernel
theorem dX9_fits_20 : decode cX9_fits 20 = .ok (.goto 4, 3) := by decide +kernel
theorem dX9_fits_23 : decode cX9_fits 23 = .ok (.iconst 0, 1) := by decide +kernel
theorem dX9_fits_24 : decode cX9_fits 24 = .ok (.istore 4, 2) := by decide +kernel
theorem dX9_fits_26 : decode cX9_fits 26 = .ok (.iload_n 3, 1) := by decide +kernel
theorem dX9_fits_27 : decode cX9_fits 27 = .ok (.bipush 48, 2) := by decide +kernel
theorem dX9_fits_29 : decode cX9_fits 29 = .ok (.if_icmp .lt 13, 3) := by decide +kernel
theorem dX9_fits_32 : decode cX9_fits 32 = .ok (.iload_n 3, 1) := by decide +kernel
theorem dX9_fits_33 : decode cX9_fits 33 = .ok (.bipush 57, 2) := by decide +kernel
theorem dX9_fits_35 : decode cX9_fits 35 = .ok (.if_icmp .gt 7, 3) := by decide +kernel
theorem dX9_fits_38 : decode cX9_fits 38 = .ok (.iconst 1, 1) := by decide +kernel
theorem dX9_fits_39 : decode cX9_fits 39 = .ok (.goto 4, 3) := by decide +kernel
theorem dX9_fits_42 : decode cX9_fits 42 = .ok (.iconst 0, 1) := by decide +kernel
theorem dX9_fits_43 : decode cX9_fits 43 = .ok (.istore 5, 2) := by decide +kernel
theorem dX9_fits_45 : decode cX9_fits 45 = .ok (.aload_n 0, 1) := by decide +kernel
theorem dX9_fits_46 : decode cX9_fits 46 = .ok (.getfield 21, 3) := by decide +kernel
theorem dX9_fits_49 : decode cX9_fits 49 = .ok (.iload_n 1, 1) := by decide +kernel
theorem dX9_fits_50 : decode cX9_fits 50 = .ok (.iaload, 1) := by decide +kernel
theorem dX9_fits_51 : decode cX9_fits 51 = .ok (.tableswitch 135 0 5 #[37, 40, 67, 84, 87, 111], 37) := by decide +kernel
theorem dX9_fits_88 : decode cX9_fits 88 = .ok (.iload 4, 2) := by decide +kernel
theorem dX9_fits_90 : decode cX9_fits 90 = .ok (.ireturn, 1) := by decide +kernel
theorem dX9_fits_91 : decode cX9_fits 91 = .ok (.iload 4, 2) := by decide +kernel
theorem dX9_fits_93 : decode cX9_fits 93 = .ok (.ifCond .eq 23, 3) := by decide +kernel
theorem dX9_fits_96 : decode cX9_fits 96 = .ok (.iload_n 2, 1) := by decide +kernel
theorem dX9_fits_97 : decode cX9_fits 97 = .ok (.ifCond .le 19, 3) := by decide +kernel
theorem dX9_fits_100 : decode cX9_fits 100 = .ok (.iload_n 3, 1) := by decide +kernel
theorem dX9_fits_101 : decode cX9_fits 101 = .ok (.aload_n 0, 1) := by decide +kernel
theorem dX9_fits_102 : decode cX9_fits 102 = .ok (.getfield 34, 3) := by decide +kernel
theorem dX9_fits_105 : decode cX9_fits 105 = .ok (.iload_n 2, 1) := by decide +kernel
theorem dX9_fits_106 : decode cX9_fits 106 = .ok (.iconst 1, 1) := by decide +kernel
theorem dX9_fits_107 : decode cX9_fits 107 = .ok (.isub, 1) := by decide +kernel
theorem dX9_fits_108 : decode cX9_fits 108 = .ok (.iaload, 1) := by decide +kernel
theorem dX9_fits_109 : decode cX9_fits 109 = .ok (.if_icmp .eq 7, 3) := by decide +kernel
theorem dX9_fits_112 : decode cX9_fits 112 = .ok (.iconst 1, 1) := by decide +kernel
theorem dX9_fits_113 : decode cX9_fits 113 = .ok (.goto 4, 3) := by decide +kernel
theorem dX9_fits_116 : decode cX9_fits 116 = .ok (.iconst 0, 1) := by decide +kernel
theorem dX9_fits_117 : decode cX9_fits 117 = .ok (.ireturn, 1) := by decide +kernel
theorem dX9_fits_118 : decode cX9_fits 118 = .ok (.iload 5, 2) := by decide +kernel
theorem dX9_fits_120 : decode cX9_fits 120 = .ok (.ifCond .eq 13, 3) := by decide +kernel
theorem dX9_fits_123 : decode cX9_fits 123 = .ok (.iload_n 3, 1) := by decide +kernel
theorem dX9_fits_124 : decode cX9_fits 124 = .ok (.bipush 48, 2) := by decide +kernel
theorem dX9_fits_126 : decode cX9_fits 126 = .ok (.if_icmp .eq 7, 3) := by decide +kernel
theorem dX9_fits_129 : decode cX9_fits 129 = .ok (.iconst 1, 1) := by decide +kernel
theorem dX9_fits_130 : decode cX9_fits 130 = .ok (.goto 4, 3) := by decide +kernel
theorem dX9_fits_133 : decode cX9_fits 133 = .ok (.iconst 0, 1) := by decide +kernel
theorem dX9_fits_134 : decode cX9_fits 134 = .ok (.ireturn, 1) := by decide +kernel
theorem dX9_fits_135 : decode cX9_fits 135 = .ok (.iload 5, 2) := by decide +kernel
theorem dX9_fits_137 : decode cX9_fits 137 = .ok (.ireturn, 1) := by decide +kernel
theorem dX9_fits_138 : decode cX9_fits 138 = .ok (.iload_n 3, 1) := by decide +kernel
theorem dX9_fits_139 : decode cX9_fits 139 = .ok (.bipush 117, 2) := by decide +kernel
theorem dX9_fits_141 : decode cX9_fits 141 = .ok (.if_icmp .eq 15, 3) := by decide +kernel
theorem dX9_fits_144 : decode cX9_fits 144 = .ok (.iload_n 3, 1) := by decide +kernel
theorem dX9_fits_145 : decode cX9_fits 145 = .ok (.bipush 102, 2) := by decide +kernel
theorem dX9_fits_147 : decode cX9_fits 147 = .ok (.if_icmp .eq 9, 3) := by decide +kernel
theorem dX9_fits_150 : decode cX9_fits 150 = .ok (.iload_n 3, 1) := by decide +kernel
theorem dX9_fits_151 : decode cX9_fits 151 = .ok (.bipush 100, 2) := by decide +kernel
theorem dX9_fits_153 : decode cX9_fits 153 = .ok (.if_icmp .ne 7, 3) := by decide +kernel
theorem dX9_fits_156 : decode cX9_fits 156 = .ok (.iconst 1, 1) := by decide +kernel
theorem dX9_fits_157 : decode cX9_fits 157 = .ok (.goto 4, 3) := by decide +kernel
theorem dX9_fits_160 : decode cX9_fits 160 = .ok (.iconst 0, 1) := by decide +kernel
theorem dX9_fits_161 : decode cX9_fits 161 = .ok (.ireturn, 1) := by decide +kernel
theorem dX9_fits_162 : decode cX9_fits 162 = .ok (.iload_n 3, 1) := by decide +kernel
theorem dX9_fits_163 : decode cX9_fits 163 = .ok (.bipush 111, 2) := by decide +kernel
theorem dX9_fits_165 : decode cX9_fits 165 = .ok (.if_icmp .eq 15, 3) := by decide +kernel
theorem dX9_fits_168 : decode cX9_fits 168 = .ok (.iload_n 3, 1) := by decide +kernel
theorem dX9_fits_169 : decode cX9_fits 169 = .ok (.bipush 99, 2) := by decide +kernel
theorem dX9_fits_171 : decode cX9_fits 171 = .ok (.if_icmp .eq 9, 3) := by decide +kernel
theorem dX9_fits_174 : decode cX9_fits 174 = .ok (.iload_n 3, 1) := by decide +kernel
theorem dX9_fits_175 : decode cX9_fits 175 = .ok (.bipush 114, 2) := by decide +kernel
theorem dX9_fits_177 : decode cX9_fits 177 = .ok (.if_icmp .ne 7, 3) := by decide +kernel
theorem dX9_fits_180 : decode cX9_fits 180 = .ok (.iconst 1, 1) := by decide +kernel
theorem dX9_fits_181 : decode cX9_fits 181 = .ok (.goto 4, 3) := by decide +kernel
theorem dX9_fits_184 : decode cX9_fits 184 = .ok (.iconst 0, 1) := by decide +kernel
theorem dX9_fits_185 : decode cX9_fits 185 = .ok (.ireturn, 1) := by decide +kernel
theorem dX9_fits_186 : decode cX9_fits 186 = .ok (.iload_n 3, 1) := by decide +kernel
theorem dX9_fits_187 : decode cX9_fits 187 = .ok (.bipush 59, 2) := by decide +kernel
theorem dX9_fits_189 : decode cX9_fits 189 = .ok (.if_icmp .ne 7, 3) := by decide +kernel
theorem dX9_fits_192 : decode cX9_fits 192 = .ok (.iconst 1, 1) := by decide +kernel
theorem dX9_fits_193 : decode cX9_fits 193 = .ok (.goto 4, 3) := by decide +kernel
theorem dX9_fits_196 : decode cX9_fits 196 = .ok (.iconst 0, 1) := by decide +kernel
theorem dX9_fits_197 : decode cX9_fits 197 = .ok (.ireturn, 1) := by decide +kernel
theorem dX9_number_0 : decode cX9_number 0 = .ok (.aload_n 0, 1) := by decide +kernel
theorem dX9_number_1 : decode cX9_number 1 = .ok (.getfield 34, 3) := by decide +kernel
theorem dX9_number_4 : decode cX9_number 4 = .ok (.iload_n 1, 1) := by decide +kernel
theorem dX9_number_5 : decode cX9_number 5 = .ok (.aload_n 0, 1) := by decide +kernel
theorem dX9_number_6 : decode cX9_number 6 = .ok (.getfield 21, 3) := by decide +kernel
theorem dX9_number_9 : decode cX9_number 9 = .ok (.arraylength, 1) := by decide +kernel
theorem dX9_number_10 : decode cX9_number 10 = .ok (.imul, 1) := by decide +kernel
theorem dX9_number_11 : decode cX9_number 11 = .ok (.iload_n 2, 1) := by decide +kernel
theorem dX9_number_12 : decode cX9_number 12 = .ok (.iadd, 1) := by decide +kernel
theorem dX9_number_13 : decode cX9_number 13 = .ok (.iaload, 1) := by decide +kernel
theorem dX9_number_14 : decode cX9_number 14 = .ok (.istore_n 3, 1) := by decide +kernel
theorem dX9_number_15 : decode cX9_number 15 = .ok (.aload_n 0, 1) := by decide +kernel
theorem dX9_number_16 : decode cX9_number 16 = .ok (.getfield 21, 3) := by decide +kernel
theorem dX9_number_19 : decode cX9_number 19 = .ok (.iload_n 2, 1) := by decide +kernel
theorem dX9_number_20 : decode cX9_number 20 = .ok (.iaload, 1) := by decide +kernel
theorem dX9_number_21 : decode cX9_number 21 = .ok (.tableswitch 67 0 4 #[35, 35, 40, 40, 45], 35) := by decide +kernel
theorem dX9_number_56 : decode cX9_number 56 = .ok (.iload_n 3, 1) := by decide +kernel
theorem dX9_number_57 : decode cX9_number 57 = .ok (.bipush 97, 2) := by decide +kernel
theorem dX9_number_59 : decode cX9_number 59 = .ok (.isub, 1) := by decide +kernel
theorem dX9_number_60 : decode cX9_number 60 = .ok (.ireturn, 1) := by decide +kernel
theorem dX9_number_61 : decode cX9_number 61 = .ok (.iload_n 3, 1) := by decide +kernel
theorem dX9_number_62 : decode cX9_number 62 = .ok (.bipush 48, 2) := by decide +kernel
theorem dX9_number_64 : decode cX9_number 64 = .ok (.isub, 1) := by decide +kernel
theorem dX9_number_65 : decode cX9_number 65 = .ok (.ireturn, 1) := by decide +kernel
theorem dX9_number_66 : decode cX9_number 66 = .ok (.iload_n 3, 1) := by decide +kernel
theorem dX9_number_67 : decode cX9_number 67 = .ok (.bipush 117, 2) := by decide +kernel
theorem dX9_number_69 : decode cX9_number 69 = .ok (.if_icmp .ne 7, 3) := by decide +kernel
theorem dX9_number_72 : decode cX9_number 72 = .ok (.iconst 0, 1) := by decide +kernel
theorem dX9_number_73 : decode cX9_number 73 = .ok (.goto 14, 3) := by decide +kernel
theorem dX9_number_76 : decode cX9_number 76 = .ok (.iload_n 3, 1) := by decide +kernel
theorem dX9_number_77 : decode cX9_number 77 = .ok (.bipush 102, 2) := by decide +kernel
theorem dX9_number_79 : decode cX9_number 79 = .ok (.if_icmp .ne 7, 3) := by decide +kernel
theorem dX9_number_82 : decode cX9_number 82 = .ok (.iconst 1, 1) := by decide +kernel
theorem dX9_number_83 : decode cX9_number 83 = .ok (.goto 4, 3) := by decide +kernel
theorem dX9_number_86 : decode cX9_number 86 = .ok (.iconst 2, 1) := by decide +kernel
theorem dX9_number_87 : decode cX9_number 87 = .ok (.ireturn, 1) := by decide +kernel
theorem dX9_number_88 : decode cX9_number 88 = .ok (.iload_n 3, 1) := by decide +kernel
theorem dX9_number_89 : decode cX9_number 89 = .ok (.bipush 111, 2) := by decide +kernel
theorem dX9_number_91 : decode cX9_number 91 = .ok (.if_icmp .ne 7, 3) := by decide +kernel
theorem dX9_number_94 : decode cX9_number 94 = .ok (.iconst 0, 1) := by decide +kernel
theorem dX9_number_95 : decode cX9_number 95 = .ok (.goto 14, 3) := by decide +kernel
theorem dX9_number_98 : decode cX9_number 98 = .ok (.iload_n 3, 1) := by decide +kernel
theorem dX9_number_99 : decode cX9_number 99 = .ok (.bipush 99, 2) := by decide +kernel
theorem dX9_number_101 : decode cX9_number 101 = .ok (.if_icmp .ne 7, 3) := by decide +kernel
theorem dX9_number_104 : decode cX9_number 104 = .ok (.iconst 1, 1) := by decide +kernel
theorem dX9_number_105 : decode cX9_number 105 = .ok (.goto 4, 3) := by decide +kernel
theorem dX9_number_108 : decode cX9_number 108 = .ok (.iconst 2, 1) := by decide +kernel
theorem dX9_number_109 : decode cX9_number 109 = .ok (.ireturn, 1) := by decide +kernel
theorem dX10_init_0 : decode cX10_init 0 = .ok (.aload_n 0, 1) := by decide +kernel
theorem dX10_init_1 : decode cX10_init 1 = .ok (.invokespecial 1, 3) := by decide +kernel
theorem dX10_init_4 : decode cX10_init 4 = .ok (.aload_n 0, 1) := by decide +kernel
theorem dX10_init_5 : decode cX10_init 5 = .ok (.new 7, 3) := by decide +kernel
theorem dX10_init_8 : decode cX10_init 8 = .ok (.dup, 1) := by decide +kernel
theorem dX10_init_9 : decode cX10_init 9 = .ok (.getstatic 9, 3) := by decide +kernel
theorem dX10_init_12 : decode cX10_init 12 = .ok (.bipush 10, 2) := by decide +kernel
theorem dX10_init_14 : decode cX10_init 14 = .ok (.invokespecial 15, 3) := by decide +kernel
theorem dX10_init_17 : decode cX10_init 17 = .ok (.putfield 18, 3) := by decide +kernel
theorem dX10_init_20 : decode cX10_init 20 = .ok (.aload_n 0, 1) := by decide +kernel
theorem dX10_init_21 : decode cX10_init 21 = .ok (.new 7, 3) := by decide +kernel
theorem dX10_init_24 : decode cX10_init 24 = .ok (.dup, 1) := by decide +kernel
theorem dX10_init_25 : decode cX10_init 25 = .ok (.getstatic 22, 3) := by decide +kernel
theorem dX10_init_28 : decode cX10_init 28 = .ok (.bipush 8, 2) := by decide +kernel
theorem dX10_init_30 : decode cX10_init 30 = .ok (.invokespecial 15, 3) := by decide +kernel
theorem dX10_init_33 : decode cX10_init 33 = .ok (.putfield 25, 3) := by decide +kernel
theorem dX10_init_36 : decode cX10_init 36 = .ok (.aload_n 0, 1) := by decide +kernel
theorem dX10_init_37 : decode cX10_init 37 = .ok (.new 28, 3) := by decide +kernel
theorem dX10_init_40 : decode cX10_init 40 = .ok (.dup, 1) := by decide +kernel
theorem dX10_init_41 : decode cX10_init 41 = .ok (.invokespecial 30, 3) := by decide +kernel
theorem dX10_init_44 : decode cX10_init 44 = .ok (.putfield 31, 3) := by decide +kernel
theorem dX10_init_47 : decode cX10_init 47 = .ok (.aload_n 0, 1) := by decide +kernel
theorem dX10_init_48 : decode cX10_init 48 = .ok (.new 35, 3) := by decide +kernel
theorem dX10_init_51 : decode cX10_init 51 = .ok (.dup, 1) := by decide +kernel
theorem dX10_init_52 : decode cX10_init 52 = .ok (.aload_n 0, 1) := by decide +kernel
theorem dX10_init_53 : decode cX10_init 53 = .ok (.getfield 31, 3) := by decide +kernel
theorem dX10_init_56 : decode cX10_init 56 = .ok (.new 37, 3) := by decide +kernel
theorem dX10_init_59 : decode cX10_init 59 = .ok (.dup, 1) := by decide +kernel
theorem dX10_init_60 : decode cX10_init 60 = .ok (.invokespecial 39, 3) := by decide +kernel
theorem dX10_init_63 : decode cX10_init 63 = .ok (.invokespecial 40, 3) := by decide +kernel
theorem dX10_init_66 : decode cX10_init 66 = .ok (.putfield 43, 3) := by decide +kernel
theorem dX10_init_69 : decode cX10_init 69 = .ok (.aload_n 0, 1) := by decide +kernel
theorem dX10_init_70 : decode cX10_init 70 = .ok (.getfield 43, 3) := by decide +kernel
theorem dX10_init_73 : decode cX10_init 73 = .ok (.getfield 47, 3) := by decide +kernel
theorem dX10_init_76 : decode cX10_init 76 = .ok (.aload_n 0, 1) := by decide +kernel
theorem dX10_init_77 : decode cX10_init 77 = .ok (.getfield 18, 3) := by decide +kernel
theorem dX10_init_80 : decode cX10_init 80 = .ok (.iconst (-1), 1) := by decide +kernel
theorem dX10_init_81 : decode cX10_init 81 = .ok (.invokevirtual 51, 3) := by decide +kernel
theorem dX10_init_84 : decode cX10_init 84 = .ok (.aload_n 0, 1) := by decide +kernel
theorem dX10_init_85 : decode cX10_init 85 = .ok (.new 55, 3) := by decide +kernel
theorem dX10_init_88 : decode cX10_init 88 = .ok (.dup, 1) := by decide +kernel
theorem dX10_init_89 : decode cX10_init 89 = .ok (.invokespecial 57, 3) := by decide +kernel
theorem dX10_init_92 : decode cX10_init 92 = .ok (.putfield 58, 3) := by decide +kernel
theorem dX10_init_95 : decode cX10_init 95 = .ok (.aload_n 0, 1) := by decide +kernel
theorem dX10_init_96 : decode cX10_init 96 = .ok (.getfield 58, 3) := by decide +kernel
theorem dX10_init_99 : decode cX10_init 99 = .ok (.aload_n 0, 1) := by decide +kernel
theorem dX10_init_100 : decode cX10_init 100 = .ok (.getfield 43, 3) := by decide +kernel
theorem dX10_init_103 : decode cX10_init 103 = .ok (.invokevirtual 62, 3) := by decide +kernel
theorem dX10_init_106 : decode cX10_init 106 = .ok (.new 35, 3) := by decide +kernel
theorem dX10_init_109 : decode cX10_init 109 = .ok (.dup, 1) := by decide +kernel
theorem dX10_init_110 : decode cX10_init 110 = .ok (.aload_n 0, 1) := by decide +kernel
theorem dX10_init_111 : decode cX10_init 111 = .ok (.getfield 31, 3) := by decide +kernel
theorem dX10_init_114 : decode cX10_init 114 = .ok (.aload_n 0, 1) := by decide +kernel
theorem dX10_init_115 : decode cX10_init 115 = .ok (.getfield 43, 3) := by decide +kernel
theorem dX10_init_118 : decode cX10_init 118 = .ok (.getfield 47, 3) := by decide +kernel
theorem dX10_init_121 : decode cX10_init 121 = .ok (.invokespecial 40, 3) := by decide +kernel
theorem dX10_init_124 : decode cX10_init 124 = .ok (.astore_n 1, 1) := by decide +kernel
theorem dX10_init_125 : decode cX10_init 125 = .ok (.new 55, 3) := by decide +kernel
theorem dX10_init_128 : decode cX10_init 128 = .ok (.dup, 1) := by decide +kernel
theorem dX10_init_129 : decode cX10_init 129 = .ok (.invokespecial 57, 3) := by decide +kernel
theorem dX10_init_132 : decode cX10_init 132 = .ok (.astore_n 2, 1) := by decide +kernel
theorem dX10_init_133 : decode cX10_init 133 = .ok (.aload_n 0, 1) := by decide +kernel
theorem dX10_init_134 : decode cX10_init 134 = .ok (.new 66, 3) := by decide +kernel
theorem dX10_init_137 : decode cX10_init 137 = .ok (.dup, 1) := by decide +kernel
theorem dX10_init_138 : decode cX10_init 138 = .ok (.aload_n 0, 1) := by decide +kernel
theorem dX10_init_139 : decode cX10_init 139 = .ok (.getfield 43, 3) := by decide +kernel
theorem dX10_init_142 : decode cX10_init 142 = .ok (.aload_n 1, 1) := by decide +kernel
theorem dX10_init_143 : decode cX10_init 143 = .ok (.aload_n 2, 1) := by decide +kernel
theorem dX10_init_144 : decode cX10_init 144 = .ok (.invokespecial 68, 3) := by decide +kernel
theorem dX10_init_147 : decode cX10_init 147 = .ok (.putfield 71, 3) := by decide +kernel
theorem dX10_init_150 : decode cX10_init 150 = .ok (.aload_n 0, 1) := by decide +kernel
theorem dX10_init_151 : decode cX10_init 151 = .ok (.new 75, 3) := by decide +kernel
theorem dX10_init_154 : decode cX10_init 154 = .ok (.dup, 1) := by decide +kernel
theorem dX10_init_155 : decode cX10_init 155 = .ok (.aload_n 0, 1) := by decide +kernel
theorem dX10_init_156 : decode cX10_init 156 = .ok (.getfield 43, 3) := by decide +kernel
theorem dX10_init_159 : decode cX10_init 159 = .ok (.aload_n 1, 1) := by decide +kernel
theorem dX10_init_160 : decode cX10_init 160 = .ok (.aload_n 2, 1) := by decide +kernel
theorem dX10_init_161 : decode cX10_init 161 = .ok (.invokespecial 77, 3) := by decide +kernel
theorem dX10_init_164 : decode cX10_init 164 = .ok (.putfield 78, 3) := by decide +kernel
theorem dX10_init_167 : decode cX10_init 167 = .ok (.aload_n 0, 1) := by decide +kernel
theorem dX10_init_168 : decode cX10_init 168 = .ok (.new 82, 3) := by decide +kernel
theorem dX10_init_171 : decode cX10_init 171 = .ok (.dup, 1) := by decide +kernel
theorem dX10_init_172 : decode cX10_init 172 = .ok (.aload_n 0, 1) := by decide +kernel
theorem dX10_init_173 : decode cX10_init 173 = .ok (.getfield 43, 3) := by decide +kernel
theorem dX10_init_176 : decode cX10_init 176 = .ok (.aload_n 1, 1) := by decide +kernel
theorem dX10_init_177 : decode cX10_init 177 = .ok (.aload_n 2, 1) := by decide +kernel
theorem dX10_init_178 : decode cX10_init 178 = .ok (.invokespecial 84, 3) := by decide +kernel
theorem dX10_init_181 : decode cX10_init 181 = .ok (.putfield 85, 3) := by decide +kernel
theorem dX10_init_184 : decode cX10_init 184 = .ok (.aload_n 0, 1) := by decide +kernel
theorem dX10_init_185 : decode cX10_init 185 = .ok (.iconst 4, 1) := by decide +kernel
theorem dX10_init_186 : decode cX10_init 186 = .ok (.anewarray 89, 3) := by decide +kernel
theorem dX10_init_189 : decode cX10_init 189 = .ok (.putfield 91, 3) := by decide +kernel
theorem dX10_init_192 : decode cX10_init 192 = .ok (.iconst 0, 1) := by decide +kernel
theorem dX10_init_193 : decode cX10_init 193 = .ok (.istore_n 3, 1) := by decide +kernel
theorem dX10_init_194 : decode cX10_init 194 = .ok (.iload_n 3, 1) := by decide +kernel
theorem dX10_init_195 : decode cX10_init 195 = .ok (.iconst 4, 1) := by decide +kernel
theorem dX10_init_196 : decode cX10_init 196 = .ok (.if_icmp .ge 22, 3) := by decide +kernel
theorem dX10_init_199 : decode cX10_init 199 = .ok (.aload_n 0, 1) := by decide +kernel
theorem dX10_init_200 : decode cX10_init 200 = .ok (.getfield 91, 3) := by decide +kernel
theorem dX10_init_203 : decode cX10_init 203 = .ok (.iload_n 3, 1) := by decide +kernel
theorem dX10_init_204 : decode cX10_init 204 = .ok (.new 89, 3) := by decide +kernel
theorem dX10_init_207 : decode cX10_init 207 = .ok (.dup, 1) := by decide +kernel
theorem dX10_init_208 : decode cX10_init 208 = .ok (.invokespecial 95, 3) := by decide +kernel
theorem dX10_init_211 : decode cX10_init 211 = .ok (.aastore, 1) := by decide +kernel
theorem dX10_init_212 : decode cX10_init 212 = .ok (.iinc 3 1, 3) := by decide +kernel
theorem dX10_init_215 : decode cX10_init 215 = .ok (.goto (-21), 3) := by decide +kernel
theorem dX10_init_218 : decode cX10_init 218 = .ok (.aload_n 0, 1) := by decide +kernel
theorem dX10_init_219 : decode cX10_init 219 = .ok (.iconst 0, 1) := by decide +kernel
theorem dX10_init_220 : decode cX10_init 220 = .ok (.putfield 96, 3) := by decide +kernel
theorem dX10_init_223 : decode cX10_init 223 = .ok (.return_, 1) := by decide +kernel
theorem dX10_type_0 : decode cX10_type 0 = .ok (.iload_n 1, 1) := by decide +kernel
theorem dX10_type_1 : decode cX10_type 1 = .ok (.iconst 2, 1) := by decide +kernel
theorem dX10_type_2 : decode cX10_type 2 = .ok (.invokestatic 100, 3) := by decide +kernel
theorem dX10_type_5 : decode cX10_type 5 = .ok (.ifCond .eq 13, 3) := by decide +kernel
theorem dX10_type_8 : decode cX10_type 8 = .ok (.iload_n 2, 1) := by decide +kernel
theorem dX10_type_9 : decode cX10_type 9 = .ok (.sipush 256, 3) := by decide +kernel
theorem dX10_type_12 : decode cX10_type 12 = .ok (.invokestatic 100, 3) := by decide +kernel
theorem dX10_type_15 : decode cX10_type 15 = .ok (.ifCond .ne 6, 3) := by decide +kernel
theorem dX10_type_18 : decode cX10_type 18 = .ok (.bipush (-2), 2) := by decide +kernel
theorem dX10_type_20 : decode cX10_type 20 = .ok (.ireturn, 1) := by decide +kernel
theorem dX10_type_21 : decode cX10_type 21 = .ok (.aload_n 0, 1) := by decide +kernel
theorem dX10_type_22 : decode cX10_type 22 = .ok (.iload_n 1, 1) := by decide +kernel
theorem dX10_type_23 : decode cX10_type 23 = .ok (.invokevirtual 104, 3) := by decide +kernel
theorem dX10_type_26 : decode cX10_type 26 = .ok (.astore_n 3, 1) := by decide +kernel
theorem dX10_type_27 : decode cX10_type 27 = .ok (.aload_n 3, 1) := by decide +kernel
theorem dX10_type_28 : decode cX10_type 28 = .ok (.invokevirtual 108, 3) := by decide +kernel
theorem dX10_type_31 : decode cX10_type 31 = .ok (.ifCond .eq 6, 3) := by decide +kernel
theorem dX10_type_34 : decode cX10_type 34 = .ok (.bipush (-4), 2) := by decide +kernel
theorem dX10_type_36 : decode cX10_type 36 = .ok (.ireturn, 1) := by decide +kernel
theorem dX10_type_37 : decode cX10_type 37 = .ok (.aload_n 3, 1) := by decide +kernel
theorem dX10_type_38 : decode cX10_type 38 = .ok (.iload_n 2, 1) := by decide +kernel
theorem dX10_type_39 : decode cX10_type 39 = .ok (.invokevirtual 112, 3) := by decide +kernel
theorem dX10_type_42 : decode cX10_type 42 = .ok (.aload_n 0, 1) := by decide +kernel
theorem dX10_type_43 : decode cX10_type 43 = .ok (.iload_n 1, 1) := by decide +kernel
theorem dX10_type_44 : decode cX10_type 44 = .ok (.invokevirtual 116, 3) := by decide +kernel
theorem dX10_type_47 : decode cX10_type 47 = .ok (.aload_n 3, 1) := by decide +kernel
theorem dX10_type_48 : decode cX10_type 48 = .ok (.getfield 119, 3) := by decide +kernel
theorem dX10_type_51 : decode cX10_type 51 = .ok (.ireturn, 1) := by decide +kernel
theorem dX10_wipe_0 : decode cX10_wipe 0 = .ok (.iload_n 1, 1) := by decide +kernel
theorem dX10_wipe_1 : decode cX10_wipe 1 = .ok (.iconst 2, 1) := by decide +kernel
theorem dX10_wipe_2 : decode cX10_wipe 2 = .ok (.invokestatic 100, 3) := by decide +kernel
theorem dX10_wipe_5 : decode cX10_wipe 5 = .ok (.ifCond .ne 6, 3) := by decide +kernel
theorem dX10_wipe_8 : decode cX10_wipe 8 = .ok (.bipush (-2), 2) := by decide +kernel
theorem dX10_wipe_10 : decode cX10_wipe 10 = .ok (.ireturn, 1) := by decide +kernel
theorem dX10_wipe_11 : decode cX10_wipe 11 = .ok (.aload_n 0, 1) := by decide +kernel
theorem dX10_wipe_12 : decode cX10_wipe 12 = .ok (.iload_n 1, 1) := by decide +kernel
theorem dX10_wipe_13 : decode cX10_wipe 13 = .ok (.invokevirtual 104, 3) := by decide +kernel
theorem dX10_wipe_16 : decode cX10_wipe 16 = .ok (.astore_n 2, 1) := by decide +kernel
theorem dX10_wipe_17 : decode cX10_wipe 17 = .ok (.aload_n 2, 1) := by decide +kernel
theorem dX10_wipe_18 : decode cX10_wipe 18 = .ok (.getfield 119, 3) := by decide +kernel
theorem dX10_wipe_21 : decode cX10_wipe 21 = .ok (.istore_n 3, 1) := by decide +kernel
theorem dX10_wipe_22 : decode cX10_wipe 22 = .ok (.aload_n 2, 1) := by decide +kernel
theorem dX10_wipe_23 : decode cX10_wipe 23 = .ok (.iconst 0, 1) := by decide +kernel
theorem dX10_wipe_24 : decode cX10_wipe 24 = .ok (.invokevirtual 122, 3) := by decide +kernel
theorem dX10_wipe_27 : decode cX10_wipe 27 = .ok (.aload_n 0, 1) := by decide +kernel
theorem dX10_wipe_28 : decode cX10_wipe 28 = .ok (.iload_n 1, 1) := by decide +kernel
theorem dX10_wipe_29 : decode cX10_wipe 29 = .ok (.invokevirtual 116, 3) := by decide +kernel
theorem dX10_wipe_32 : decode cX10_wipe 32 = .ok (.iload_n 3, 1) := by decide +kernel
theorem dX10_wipe_33 : decode cX10_wipe 33 = .ok (.ireturn, 1) := by decide +kernel
theorem dX10_undo_0 : decode cX10_undo 0 = .ok (.iload_n 1, 1) := by decide +kernel
theorem dX10_undo_1 : decode cX10_undo 1 = .ok (.iconst 2, 1) := by decide +kernel
theorem dX10_undo_2 : decode cX10_undo 2 = .ok (.invokestatic 100, 3) := by decide +kernel
theorem dX10_undo_5 : decode cX10_undo 5 = .ok (.ifCond .ne 6, 3) := by decide +kernel
theorem dX10_undo_8 : decode cX10_undo 8 = .ok (.bipush (-2), 2) := by decide +kernel
theorem dX10_undo_10 : decode cX10_undo 10 = .ok (.ireturn, 1) := by decide +kernel
theorem dX10_undo_11 : decode cX10_undo 11 = .ok (.aload_n 0, 1) := by decide +kernel
theorem dX10_undo_12 : decode cX10_undo 12 = .ok (.iload_n 1, 1) := by decide +kernel
theorem dX10_undo_13 : decode cX10_undo 13 = .ok (.invokevirtual 104, 3) := by decide +kernel
theorem dX10_undo_16 : decode cX10_undo 16 = .ok (.astore_n 2, 1) := by decide +kernel
theorem dX10_undo_17 : decode cX10_undo 17 = .ok (.aload_n 2, 1) := by decide +kernel
theorem dX10_undo_18 : decode cX10_undo 18 = .ok (.getfield 119, 3) := by decide +kernel
theorem dX10_undo_21 : decode cX10_undo 21 = .ok (.ifCond .ne 6, 3) := by decide +kernel
theorem dX10_undo_24 : decode cX10_undo 24 = .ok (.bipush (-3), 2) := by decide +kernel
theorem dX10_undo_26 : decode cX10_undo 26 = .ok (.ireturn, 1) := by decide +kernel
theorem dX10_undo_27 : decode cX10_undo 27 = .ok (.aload_n 2, 1) := by decide +kernel
theorem dX10_undo_28 : decode cX10_undo 28 = .ok (.aload_n 2, 1) := by decide +kernel
theorem dX10_undo_29 : decode cX10_undo 29 = .ok (.getfield 119, 3) := by decide +kernel
theorem dX10_undo_32 : decode cX10_undo 32 = .ok (.iconst 1, 1) := by decide +kernel
theorem dX10_undo_33 : decode cX10_undo 33 = .ok (.isub, 1) := by decide +kernel
theorem dX10_undo_34 : decode cX10_undo 34 = .ok (.invokevirtual 122, 3) := by decide +kernel
theorem dX10_undo_37 : decode cX10_undo 37 = .ok (.aload_n 0, 1) := by decide +kernel
theorem dX10_undo_38 : decode cX10_undo 38 = .ok (.iload_n 1, 1) := by decide +kernel
theorem dX10_undo_39 : decode cX10_undo 39 = .ok (.invokevirtual 116, 3) := by decide +kernel
theorem dX10_undo_42 : decode cX10_undo 42 = .ok (.aload_n 2, 1) := by decide +kernel
theorem dX10_undo_43 : decode cX10_undo 43 = .ok (.getfield 119, 3) := by decide +kernel
theorem dX10_undo_46 : decode cX10_undo 46 = .ok (.ireturn, 1) := by decide +kernel
theorem dX10_fault_0 : decode cX10_fault 0 = .ok (.iload_n 1, 1) := by decide +kernel
theorem dX10_fault_1 : decode cX10_fault 1 = .ok (.iconst 2, 1) := by decide +kernel
theorem dX10_fault_2 : decode cX10_fault 2 = .ok (.invokestatic 100, 3) := by decide +kernel
theorem dX10_fault_5 : decode cX10_fault 5 = .ok (.ifCond .eq 14, 3) := by decide +kernel
theorem dX10_fault_8 : decode cX10_fault 8 = .ok (.aload_n 0, 1) := by decide +kernel
theorem dX10_fault_9 : decode cX10_fault 9 = .ok (.iload_n 1, 1) := by decide +kernel
theorem dX10_fault_10 : decode cX10_fault 10 = .ok (.invokevirtual 104, 3) := by decide +kernel
theorem dX10_fault_13 : decode cX10_fault 13 = .ok (.getfield 125, 3) := by decide +kernel
theorem dX10_fault_16 : decode cX10_fault 16 = .ok (.goto 5, 3) := by decide +kernel
theorem dX10_fault_19 : decode cX10_fault 19 = .ok (.bipush (-2), 2) := by decide +kernel
theorem dX10_fault_21 : decode cX10_fault 21 = .ok (.ireturn, 1) := by decide +kernel
theorem dX10_way_0 : decode cX10_way 0 = .ok (.iload_n 1, 1) := by decide +kernel
theorem dX10_way_1 : decode cX10_way 1 = .ok (.aload_n 0, 1) := by decide +kernel
theorem dX10_way_2 : decode cX10_way 2 = .ok (.getfield 18, 3) := by decide +kernel
theorem dX10_way_5 : decode cX10_way 5 = .ok (.getfield 128, 3) := by decide +kernel
theorem dX10_way_8 : decode cX10_way 8 = .ok (.invokestatic 100, 3) := by decide +kernel
theorem dX10_way_11 : decode cX10_way 11 = .ok (.ifCond .eq 23, 3) := by decide +kernel
theorem dX10_way_14 : decode cX10_way 14 = .ok (.iload_n 2, 1) := by decide +kernel
theorem dX10_way_15 : decode cX10_way 15 = .ok (.iconst 4, 1) := by decide +kernel
theorem dX10_way_16 : decode cX10_way 16 = .ok (.invokestatic 100, 3) := by decide +kernel
theorem dX10_way_19 : decode cX10_way 19 = .ok (.ifCond .eq 15, 3) := by decide +kernel
theorem dX10_way_22 : decode cX10_way 22 = .ok (.aload_n 0, 1) := by decide +kernel
theorem dX10_way_23 : decode cX10_way 23 = .ok (.getfield 18, 3) := by decide +kernel
theorem dX10_way_26 : decode cX10_way 26 = .ok (.iload_n 1, 1) := by decide +kernel
theorem dX10_way_27 : decode cX10_way 27 = .ok (.iload_n 2, 1) := by decide +kernel
theorem dX10_way_28 : decode cX10_way 28 = .ok (.invokevirtual 131, 3) := by decide +kernel
theorem dX10_way_31 : decode cX10_way 31 = .ok (.goto 5, 3) := by decide +kernel
theorem dX10_way_34 : decode cX10_way 34 = .ok (.bipush (-2), 2) := by decide +kernel
theorem dX10_way_36 : decode cX10_way 36 = .ok (.ireturn, 1) := by decide +kernel
theorem dX10_carter_0 : decode cX10_carter 0 = .ok (.aload_n 0, 1) := by decide +kernel
theorem dX10_carter_1 : decode cX10_carter 1 = .ok (.iload_n 1, 1) := by decide +kernel
theorem dX10_carter_2 : decode cX10_carter 2 = .ok (.invokevirtual 135, 3) := by decide +kernel
theorem dX10_carter_5 : decode cX10_carter 5 = .ok (.ifCond .eq 23, 3) := by decide +kernel
theorem dX10_carter_8 : decode cX10_carter 8 = .ok (.iload_n 2, 1) := by decide +kernel
theorem dX10_carter_9 : decode cX10_carter 9 = .ok (.iconst 5, 1) := by decide +kernel
theorem dX10_carter_10 : decode cX10_carter 10 = .ok (.invokestatic 100, 3) := by decide +kernel
theorem dX10_carter_13 : decode cX10_carter 13 = .ok (.ifCond .eq 15, 3) := by decide +kernel
theorem dX10_carter_16 : decode cX10_carter 16 = .ok (.aload_n 0, 1) := by decide +kernel
theorem dX10_carter_17 : decode cX10_carter 17 = .ok (.getfield 43, 3) := by decide +kernel
theorem dX10_carter_20 : decode cX10_carter 20 = .ok (.iload_n 1, 1) := by decide +kernel
theorem dX10_carter_21 : decode cX10_carter 21 = .ok (.iload_n 2, 1) := by decide +kernel
theorem dX10_carter_22 : decode cX10_carter 22 = .ok (.invokevirtual 139, 3) := by decide +kernel
theorem dX10_carter_25 : decode cX10_carter 25 = .ok (.goto 5, 3) := by decide +kernel
theorem dX10_carter_28 : decode cX10_carter 28 = .ok (.bipush (-2), 2) := by decide +kernel
theorem dX10_carter_30 : decode cX10_carter 30 = .ok (.ireturn, 1) := by decide +kernel
theorem dX10_late_0 : decode cX10_late 0 = .ok (.iload_n 1, 1) := by decide +kernel
theorem dX10_late_1 : decode cX10_late 1 = .ok (.bipush 8, 2) := by decide +kernel
theorem dX10_late_3 : decode cX10_late 3 = .ok (.invokestatic 100, 3) := by decide +kernel
theorem dX10_late_6 : decode cX10_late 6 = .ok (.ifCond .eq 12, 3) := by decide +kernel
theorem dX10_late_9 : decode cX10_late 9 = .ok (.iload_n 2, 1) := by decide +kernel
theorem dX10_late_10 : decode cX10_late 10 = .ok (.bipush 10, 2) := by decide +kernel
theorem dX10_late_12 : decode cX10_late 12 = .ok (.invokestatic 100, 3) := by decide +kernel
theorem dX10_late_15 : decode cX10_late 15 = .ok (.ifCond .ne 6, 3) := by decide +kernel
theorem dX10_late_18 : decode cX10_late 18 = .ok (.bipush (-2), 2) := by decide +kernel
theorem dX10_late_20 : decode cX10_late 20 = .ok (.ireturn, 1) := by decide +kernel
theorem dX10_late_21 : decode cX10_late 21 = .ok (.aload_n 0, 1) := by decide +kernel
theorem dX10_late_22 : decode cX10_late 22 = .ok (.getfield 43, 3) := by decide +kernel
theorem dX10_late_25 : decode cX10_late 25 = .ok (.getfield 142, 3) := by decide +kernel
theorem dX10_late_28 : decode cX10_late 28 = .ok (.iload_n 1, 1) := by decide +kernel
theorem dX10_late_29 : decode cX10_late 29 = .ok (.iaload, 1) := by decide +kernel
theorem dX10_late_30 : decode cX10_late 30 = .ok (.istore_n 3, 1) := by decide +kernel
theorem dX10_late_31 : decode cX10_late 31 = .ok (.aload_n 0, 1) := by decide +kernel
theorem dX10_late_32 : decode cX10_late 32 = .ok (.getfield 43, 3) := by decide +kernel
theorem dX10_late_35 : decode cX10_late 35 = .ok (.getfield 142, 3) := by decide +kernel
theorem dX10_late_38 : decode cX10_late 38 = .ok (.iload_n 1, 1) := by decide +kernel
theorem dX10_late_39 : decode cX10_late 39 = .ok (.iload_n 2, 1) := by decide +kernel
theorem dX10_late_40 : decode cX10_late 40 = .ok (.iastore, 1) := by decide +kernel
theorem dX10_late_41 : decode cX10_late 41 = .ok (.aload_n 0, 1) := by decide +kernel
theorem dX10_late_42 : decode cX10_late 42 = .ok (.getfield 58, 3) := by decide +kernel
theorem dX10_late_45 : decode cX10_late 45 = .ok (.aload_n 0, 1) := by decide +kernel
theorem dX10_late_46 : decode cX10_late 46 = .ok (.getfield 43, 3) := by decide +kernel
theorem dX10_late_49 : decode cX10_late 49 = .ok (.invokevirtual 62, 3) := by decide +kernel
theorem dX10_late_52 : decode cX10_late 52 = .ok (.iload_n 3, 1) := by decide +kernel
theorem dX10_late_53 : decode cX10_late 53 = .ok (.ireturn, 1) := by decide +kernel
theorem dX10_answer_0 : decode cX10_answer 0 = .ok (.iload_n 1, 1) := by decide +kernel
theorem dX10_answer_1 : decode cX10_answer 1 = .ok (.bipush 40, 2) := by decide +kernel
theorem dX10_answer_3 : decode cX10_answer 3 = .ok (.invokestatic 100, 3) := by decide +kernel
theorem dX10_answer_6 : decode cX10_answer 6 = .ok (.ifCond .eq 12, 3) := by decide +kernel
theorem dX10_answer_9 : decode cX10_answer 9 = .ok (.iload_n 2, 1) := by decide +kernel
theorem dX10_answer_10 : decode cX10_answer 10 = .ok (.bipush 8, 2) := by decide +kernel
theorem dX10_answer_12 : decode cX10_answer 12 = .ok (.invokestatic 100, 3) := by decide +kernel
theorem dX10_answer_15 : decode cX10_answer 15 = .ok (.ifCond .ne 6, 3) := by decide +kernel
theorem dX10_answer_18 : decode cX10_answer 18 = .ok (.bipush (-2), 2) := by decide +kernel
theorem dX10_answer_20 : decode cX10_answer 20 = .ok (.ireturn, 1) := by decide +kernel
theorem dX10_answer_21 : decode cX10_answer 21 = .ok (.aload_n 0, 1) := by decide +kernel
theorem dX10_answer_22 : decode cX10_answer 22 = .ok (.getfield 31, 3) := by decide +kernel
theorem dX10_answer_25 : decode cX10_answer 25 = .ok (.getfield 145, 3) := by decide +kernel
theorem dX10_answer_28 : decode cX10_answer 28 = .ok (.bipush 8, 2) := by decide +kernel
theorem dX10_answer_30 : decode cX10_answer 30 = .ok (.if_icmp .lt 6, 3) := by decide +kernel
theorem dX10_answer_33 : decode cX10_answer 33 = .ok (.bipush (-4), 2) := by decide +kernel
theorem dX10_answer_35 : decode cX10_answer 35 = .ok (.ireturn, 1) := by decide +kernel
theorem dX10_answer_36 : decode cX10_answer 36 = .ok (.aload_n 0, 1) := by decide +kernel
theorem dX10_answer_37 : decode cX10_answer 37 = .ok (.getfield 31, 3) := by decide +kernel
theorem dX10_answer_40 : decode cX10_answer 40 = .ok (.iload_n 1, 1) := by decide +kernel
theorem dX10_answer_41 : decode cX10_answer 41 = .ok (.iload_n 2, 1) := by decide +kernel
theorem dX10_answer_42 : decode cX10_answer 42 = .ok (.invokevirtual 147, 3) := by decide +kernel
theorem dX10_answer_45 : decode cX10_answer 45 = .ok (.aload_n 0, 1) := by decide +kernel
theorem dX10_answer_46 : decode cX10_answer 46 = .ok (.getfield 58, 3) := by decide +kernel
theorem dX10_answer_49 : decode cX10_answer 49 = .ok (.aload_n 0, 1) := by decide +kernel
theorem dX10_answer_50 : decode cX10_answer 50 = .ok (.getfield 43, 3) := by decide +kernel
theorem dX10_answer_53 : decode cX10_answer 53 = .ok (.invokevirtual 62, 3) := by decide +kernel
theorem dX10_answer_56 : decode cX10_answer 56 = .ok (.aload_n 0, 1) := by decide +kernel
theorem dX10_answer_57 : decode cX10_answer 57 = .ok (.getfield 31, 3) := by decide +kernel
theorem dX10_answer_60 : decode cX10_answer 60 = .ok (.getfield 145, 3) := by decide +kernel
theorem dX10_answer_63 : decode cX10_answer 63 = .ok (.ireturn, 1) := by decide +kernel
theorem dX10_back_0 : decode cX10_back 0 = .ok (.aload_n 0, 1) := by decide +kernel
theorem dX10_back_1 : decode cX10_back 1 = .ok (.getfield 31, 3) := by decide +kernel
theorem dX10_back_4 : decode cX10_back 4 = .ok (.getfield 145, 3) := by decide +kernel
theorem dX10_back_7 : decode cX10_back 7 = .ok (.ifCond .ne 6, 3) := by decide +kernel
theorem dX10_back_10 : decode cX10_back 10 = .ok (.bipush (-3), 2) := by decide +kernel
theorem dX10_back_12 : decode cX10_back 12 = .ok (.ireturn, 1) := by decide +kernel
theorem dX10_back_13 : decode cX10_back 13 = .ok (.aload_n 0, 1) := by decide +kernel
theorem dX10_back_14 : decode cX10_back 14 = .ok (.getfield 31, 3) := by decide +kernel
theorem dX10_back_17 : decode cX10_back 17 = .ok (.dup, 1) := by decide +kernel
theorem dX10_back_18 : decode cX10_back 18 = .ok (.getfield 145, 3) := by decide +kernel
theorem dX10_back_21 : decode cX10_back 21 = .ok (.iconst 1, 1) := by decide +kernel
theorem dX10_back_22 : decode cX10_back 22 = .ok (.isub, 1) := by decide +kernel
theorem dX10_back_23 : decode cX10_back 23 = .ok (.putfield 145, 3) := by decide +kernel
theorem dX10_back_26 : decode cX10_back 26 = .ok (.aload_n 0, 1) := by decide +kernel
theorem dX10_back_27 : decode cX10_back 27 = .ok (.getfield 58, 3) := by decide +kernel
theorem dX10_back_30 : decode cX10_back 30 = .ok (.aload_n 0, 1) := by decide +kernel
theorem dX10_back_31 : decode cX10_back 31 = .ok (.getfield 43, 3) := by decide +kernel
theorem dX10_back_34 : decode cX10_back 34 = .ok (.invokevirtual 62, 3) := by decide +kernel
theorem dX10_back_37 : decode cX10_back 37 = .ok (.aload_n 0, 1) := by decide +kernel
theorem dX10_back_38 : decode cX10_back 38 = .ok (.getfield 31, 3) := by decide +kernel
theorem dX10_back_41 : decode cX10_back 41 = .ok (.getfield 145, 3) := by decide +kernel
theorem dX10_back_44 : decode cX10_back 44 = .ok (.ireturn, 1) := by decide +kernel
theorem dX10_read_0 : decode cX10_read 0 = .ok (.iload_n 1, 1) := by decide +kernel
theorem dX10_read_1 : decode cX10_read 1 = .ok (.iconst 4, 1) := by decide +kernel
theorem dX10_read_2 : decode cX10_read 2 = .ok (.invokestatic 100, 3) := by decide +kernel
theorem dX10_read_5 : decode cX10_read 5 = .ok (.ifCond .ne 6, 3) := by decide +kernel
theorem dX10_read_8 : decode cX10_read 8 = .ok (.bipush (-2), 2) := by decide +kernel
theorem dX10_read_10 : decode cX10_read 10 = .ok (.ireturn, 1) := by decide +kernel
theorem dX10_read_11 : decode cX10_read 11 = .ok (.aload_n 0, 1) := by decide +kernel
theorem dX10_read_12 : decode cX10_read 12 = .ok (.getfield 91, 3) := by decide +kernel
theorem dX10_read_15 : decode cX10_read 15 = .ok (.iload_n 1, 1) := by decide +kernel
theorem dX10_read_16 : decode cX10_read 16 = .ok (.aaload, 1) := by decide +kernel
theorem dX10_read_17 : decode cX10_read 17 = .ok (.astore_n 2, 1) := by decide +kernel
theorem dX10_read_18 : decode cX10_read 18 = .ok (.aload_n 2, 1) := by decide +kernel
theorem dX10_read_19 : decode cX10_read 19 = .ok (.getfield 150, 3) := by decide +kernel
theorem dX10_read_22 : decode cX10_read 22 = .ok (.ifCond .eq 9, 3) := by decide +kernel
theorem dX10_read_25 : decode cX10_read 25 = .ok (.aload_n 0, 1) := by decide +kernel
theorem dX10_read_26 : decode cX10_read 26 = .ok (.iconst 1, 1) := by decide +kernel
theorem dX10_read_27 : decode cX10_read 27 = .ok (.invokevirtual 154, 3) := by decide +kernel
theorem dX10_read_30 : decode cX10_read 30 = .ok (.ireturn, 1) := by decide +kernel
theorem dX10_read_31 : decode cX10_read 31 = .ok (.aload_n 0, 1) := by decide +kernel
theorem dX10_read_32 : decode cX10_read 32 = .ok (.getfield 31, 3) := by decide +kernel
theorem dX10_read_35 : decode cX10_read 35 = .ok (.getfield 145, 3) := by decide +kernel
theorem dX10_read_38 : decode cX10_read 38 = .ok (.istore_n 3, 1) := by decide +kernel
theorem dX10_read_39 : decode cX10_read 39 = .ok (.iconst 0, 1) := by decide +kernel
theorem dX10_read_40 : decode cX10_read 40 = .ok (.istore 4, 2) := by decide +kernel
theorem dX10_read_42 : decode cX10_read 42 = .ok (.iload 4, 2) := by decide +kernel
theorem dX10_read_44 : decode cX10_read 44 = .ok (.iconst 1, 1) := by decide +kernel
theorem dX10_read_45 : decode cX10_read 45 = .ok (.iadd, 1) := by decide +kernel
theorem dX10_read_46 : decode cX10_read 46 = .ok (.aload_n 2, 1) := by decide +kernel
theorem dX10_read_47 : decode cX10_read 47 = .ok (.getfield 158, 3) := by decide +kernel
theorem dX10_read_50 : decode cX10_read 50 = .ok (.if_icmp .ge 75, 3) := by decide +kernel
theorem dX10_read_53 : decode cX10_read 53 = .ok (.aload_n 0, 1) := by decide +kernel
theorem dX10_read_54 : decode cX10_read 54 = .ok (.getfield 31, 3) := by decide +kernel
theorem dX10_read_57 : decode cX10_read 57 = .ok (.getfield 145, 3) := by decide +kernel
theorem dX10_read_60 : decode cX10_read 60 = .ok (.bipush 8, 2) := by decide +kernel
theorem dX10_read_62 : decode cX10_read 62 = .ok (.if_icmp .ge 63, 3) := by decide +kernel
theorem dX10_read_65 : decode cX10_read 65 = .ok (.aload_n 2, 1) := by decide +kernel
theorem dX10_read_66 : decode cX10_read 66 = .ok (.getfield 159, 3) := by decide +kernel
theorem dX10_read_69 : decode cX10_read 69 = .ok (.iload 4, 2) := by decide +kernel
theorem dX10_read_71 : decode cX10_read 71 = .ok (.iaload, 1) := by decide +kernel
theorem dX10_read_72 : decode cX10_read 72 = .ok (.istore 5, 2) := by decide +kernel
theorem dX10_read_74 : decode cX10_read 74 = .ok (.aload_n 2, 1) := by decide +kernel
theorem dX10_read_75 : decode cX10_read 75 = .ok (.getfield 159, 3) := by decide +kernel
theorem dX10_read_78 : decode cX10_read 78 = .ok (.iload 4, 2) := by decide +kernel
theorem dX10_read_80 : decode cX10_read 80 = .ok (.iconst 1, 1) := by decide +kernel
theorem dX10_read_81 : decode cX10_read 81 = .ok (.iadd, 1) := by decide +kernel
theorem dX10_read_82 : decode cX10_read 82 = .ok (.iaload, 1) := by decide +kernel
theorem dX10_read_83 : decode cX10_read 83 = .ok (.istore 6, 2) := by decide +kernel
theorem dX10_read_85 : decode cX10_read 85 = .ok (.iload 5, 2) := by decide +kernel
theorem dX10_read_87 : decode cX10_read 87 = .ok (.bipush 40, 2) := by decide +kernel
theorem dX10_read_89 : decode cX10_read 89 = .ok (.invokestatic 100, 3) := by decide +kernel
theorem dX10_read_92 : decode cX10_read 92 = .ok (.ifCond .eq 33, 3) := by decide +kernel
theorem dX10_read_95 : decode cX10_read 95 = .ok (.iload 6, 2) := by decide +kernel
theorem dX10_read_97 : decode cX10_read 97 = .ok (.bipush 8, 2) := by decide +kernel
theorem dX10_read_99 : decode cX10_read 99 = .ok (.invokestatic 100, 3) := by decide +kernel
theorem dX10_read_102 : decode cX10_read 102 = .ok (.ifCond .ne 6, 3) := by decide +kernel
theorem dX10_read_105 : decode cX10_read 105 = .ok (.goto 20, 3) := by decide +kernel
theorem dX10_read_108 : decode cX10_read 108 = .ok (.aload_n 0, 1) := by decide +kernel
theorem dX10_read_109 : decode cX10_read 109 = .ok (.getfield 31, 3) := by decide +kernel
theorem dX10_read_112 : decode cX10_read 112 = .ok (.iload 5, 2) := by decide +kernel
theorem dX10_read_114 : decode cX10_read 114 = .ok (.iload 6, 2) := by decide +kernel
theorem dX10_read_116 : decode cX10_read 116 = .ok (.invokevirtual 147, 3) := by decide +kernel
theorem dX10_read_119 : decode cX10_read 119 = .ok (.iinc 4 2, 3) := by decide +kernel
theorem dX10_read_122 : decode cX10_read 122 = .ok (.goto (-80), 3) := by decide +kernel
theorem dX10_read_125 : decode cX10_read 125 = .ok (.aload_n 0, 1) := by decide +kernel
theorem dX10_read_126 : decode cX10_read 126 = .ok (.getfield 58, 3) := by decide +kernel
theorem dX10_read_129 : decode cX10_read 129 = .ok (.aload_n 0, 1) := by decide +kernel
theorem dX10_read_130 : decode cX10_read 130 = .ok (.getfield 43, 3) := by decide +kernel
theorem dX10_read_133 : decode cX10_read 133 = .ok (.invokevirtual 62, 3) := by decide +kernel
theorem dX10_read_136 : decode cX10_read 136 = .ok (.aload_n 0, 1) := by decide +kernel
theorem dX10_read_137 : decode cX10_read 137 = .ok (.getfield 31, 3) := by decide +kernel
theorem dX10_read_140 : decode cX10_read 140 = .ok (.getfield 145, 3) := by decide +kernel
theorem dX10_read_143 : decode cX10_read 143 = .ok (.iload_n 3, 1) := by decide +kernel
theorem dX10_read_144 : decode cX10_read 144 = .ok (.isub, 1) := by decide +kernel
theorem dX10_read_145 : decode cX10_read 145 = .ok (.ireturn, 1) := by decide +kernel
theorem dX10_at_0 : decode cX10_at 0 = .ok (.iload_n 1, 1) := by decide +kernel
theorem dX10_at_1 : decode cX10_at 1 = .ok (.bipush 40, 2) := by decide +kernel
theorem dX10_at_3 : decode cX10_at 3 = .ok (.invokestatic 100, 3) := by decide +kernel
theorem dX10_at_6 : decode cX10_at 6 = .ok (.ifCond .eq 19, 3) := by decide +kernel
theorem dX10_at_9 : decode cX10_at 9 = .ok (.aload_n 0, 1) := by decide +kernel
theorem dX10_at_10 : decode cX10_at 10 = .ok (.iload_n 2, 1) := by decide +kernel
theorem dX10_at_11 : decode cX10_at 11 = .ok (.invokevirtual 135, 3) := by decide +kernel
theorem dX10_at_14 : decode cX10_at 14 = .ok (.ifCond .eq 11, 3) := by decide +kernel
theorem dX10_at_17 : decode cX10_at 17 = .ok (.iload_n 3, 1) := by decide +kernel
theorem dX10_at_18 : decode cX10_at 18 = .ok (.iconst 4, 1) := by decide +kernel
theorem dX10_at_19 : decode cX10_at 19 = .ok (.invokestatic 100, 3) := by decide +kernel
theorem dX10_at_22 : decode cX10_at 22 = .ok (.ifCond .ne 6, 3) := by decide +kernel
theorem dX10_at_25 : decode cX10_at 25 = .ok (.bipush (-2), 2) := by decide +kernel
theorem dX10_at_27 : decode cX10_at 27 = .ok (.ireturn, 1) := by decide +kernel
theorem dX10_at_28 : decode cX10_at 28 = .ok (.aload_n 0, 1) := by decide +kernel
theorem dX10_at_29 : decode cX10_at 29 = .ok (.iload_n 1, 1) := by decide +kernel
theorem dX10_at_30 : decode cX10_at 30 = .ok (.iload_n 2, 1) := by decide +kernel
theorem dX10_at_31 : decode cX10_at 31 = .ok (.iload_n 3, 1) := by decide +kernel
theorem dX10_at_32 : decode cX10_at 32 = .ok (.invokevirtual 161, 3) := by decide +kernel
theorem dX10_at_35 : decode cX10_at 35 = .ok (.ireturn, 1) := by decide +kernel
theorem dX10_ends_0 : decode cX10_ends 0 = .ok (.aload_n 0, 1) := by decide +kernel
theorem dX10_ends_1 : decode cX10_ends 1 = .ok (.iload_n 1, 1) := by decide +kernel
theorem dX10_ends_2 : decode cX10_ends 2 = .ok (.invokevirtual 135, 3) := by decide +kernel
theorem dX10_ends_5 : decode cX10_ends 5 = .ok (.ifCond .eq 15, 3) := by decide +kernel
theorem dX10_ends_8 : decode cX10_ends 8 = .ok (.aload_n 0, 1) := by decide +kernel
theorem dX10_ends_9 : decode cX10_ends 9 = .ok (.getfield 58, 3) := by decide +kernel
theorem dX10_ends_12 : decode cX10_ends 12 = .ok (.getfield 165, 3) := by decide +kernel
theorem dX10_ends_15 : decode cX10_ends 15 = .ok (.iload_n 1, 1) := by decide +kernel
theorem dX10_ends_16 : decode cX10_ends 16 = .ok (.iaload, 1) := by decide +kernel
theorem dX10_ends_17 : decode cX10_ends 17 = .ok (.goto 5, 3) := by decide +kernel
theorem dX10_ends_20 : decode cX10_ends 20 = .ok (.bipush (-2), 2) := by decide +kernel
theorem dX10_ends_22 : decode cX10_ends 22 = .ok (.ireturn, 1) := by decide +kernel
theorem dX10_far_0 : decode cX10_far 0 = .ok (.iload_n 1, 1) := by decide +kernel
theorem dX10_far_1 : decode cX10_far 1 = .ok (.bipush 8, 2) := by decide +kernel
theorem dX10_far_3 : decode cX10_far 3 = .ok (.invokestatic 100, 3) := by decide +kernel
theorem dX10_far_6 : decode cX10_far 6 = .ok (.ifCond .eq 27, 3) := by decide +kernel
theorem dX10_far_9 : decode cX10_far 9 = .ok (.iload_n 2, 1) := by decide +kernel
theorem dX10_far_10 : decode cX10_far 10 = .ok (.bipush 8, 2) := by decide +kernel
theorem dX10_far_12 : decode cX10_far 12 = .ok (.invokestatic 100, 3) := by decide +kernel
theorem dX10_far_15 : decode cX10_far 15 = .ok (.ifCond .eq 18, 3) := by decide +kernel
theorem dX10_far_18 : decode cX10_far 18 = .ok (.aload_n 0, 1) := by decide +kernel
theorem dX10_far_19 : decode cX10_far 19 = .ok (.getfield 43, 3) := by decide +kernel
theorem dX10_far_22 : decode cX10_far 22 = .ok (.getfield 47, 3) := by decide +kernel
theorem dX10_far_25 : decode cX10_far 25 = .ok (.iload_n 1, 1) := by decide +kernel
theorem dX10_far_26 : decode cX10_far 26 = .ok (.iload_n 2, 1) := by decide +kernel
theorem dX10_far_27 : decode cX10_far 27 = .ok (.invokevirtual 168, 3) := by decide +kernel
theorem dX10_far_30 : decode cX10_far 30 = .ok (.goto 5, 3) := by decide +kernel
theorem dX10_far_33 : decode cX10_far 33 = .ok (.bipush (-2), 2) := by decide +kernel
theorem dX10_far_35 : decode cX10_far 35 = .ok (.ireturn, 1) := by decide +kernel
theorem dX10_who_0 : decode cX10_who 0 = .ok (.iload_n 1, 1) := by decide +kernel
theorem dX10_who_1 : decode cX10_who 1 = .ok (.iconst 2, 1) := by decide +kernel
theorem dX10_who_2 : decode cX10_who 2 = .ok (.if_icmp .lt 8, 3) := by decide +kernel
theorem dX10_who_5 : decode cX10_who 5 = .ok (.iload_n 1, 1) := by decide +kernel
theorem dX10_who_6 : decode cX10_who 6 = .ok (.iconst 5, 1) := by decide +kernel
theorem dX10_who_7 : decode cX10_who 7 = .ok (.if_icmp .le 8, 3) := by decide +kernel
theorem dX10_who_10 : decode cX10_who 10 = .ok (.bipush (-2), 2) := by decide +kernel
theorem dX10_who_12 : decode cX10_who 12 = .ok (.goto 11, 3) := by decide +kernel
theorem dX10_who_15 : decode cX10_who 15 = .ok (.aload_n 0, 1) := by decide +kernel
theorem dX10_who_16 : decode cX10_who 16 = .ok (.getfield 58, 3) := by decide +kernel
theorem dX10_who_19 : decode cX10_who 19 = .ok (.iload_n 1, 1) := by decide +kernel
theorem dX10_who_20 : decode cX10_who 20 = .ok (.invokevirtual 171, 3) := by decide +kernel
theorem dX10_who_23 : decode cX10_who 23 = .ok (.ireturn, 1) := by decide +kernel
theorem dX10_met_0 : decode cX10_met 0 = .ok (.iload_n 1, 1) := by decide +kernel
theorem dX10_met_1 : decode cX10_met 1 = .ok (.iconst 2, 1) := by decide +kernel
theorem dX10_met_2 : decode cX10_met 2 = .ok (.invokestatic 100, 3) := by decide +kernel
theorem dX10_met_5 : decode cX10_met 5 = .ok (.ifCond .ne 6, 3) := by decide +kernel
theorem dX10_met_8 : decode cX10_met 8 = .ok (.bipush (-2), 2) := by decide +kernel
theorem dX10_met_10 : decode cX10_met 10 = .ok (.ireturn, 1) := by decide +kernel
theorem dX10_met_11 : decode cX10_met 11 = .ok (.iload_n 1, 1) := by decide +kernel
theorem dX10_met_12 : decode cX10_met 12 = .ok (.ifCond .ne 13, 3) := by decide +kernel
theorem dX10_met_15 : decode cX10_met 15 = .ok (.aload_n 0, 1) := by decide +kernel
theorem dX10_met_16 : decode cX10_met 16 = .ok (.getfield 58, 3) := by decide +kernel
theorem dX10_met_19 : decode cX10_met 19 = .ok (.getfield 174, 3) := by decide +kernel
theorem dX10_met_22 : decode cX10_met 22 = .ok (.goto 10, 3) := by decide +kernel
theorem dX10_met_25 : decode cX10_met 25 = .ok (.aload_n 0, 1) := by decide +kernel
theorem dX10_met_26 : decode cX10_met 26 = .ok (.getfield 58, 3) := by decide +kernel
theorem dX10_met_29 : decode cX10_met 29 = .ok (.getfield 177, 3) := by decide +kernel
theorem dX10_met_32 : decode cX10_met 32 = .ok (.ireturn, 1) := by decide +kernel
theorem dX10_busiest_0 : decode cX10_busiest 0 = .ok (.aload_n 0, 1) := by decide +kernel
theorem dX10_busiest_1 : decode cX10_busiest 1 = .ok (.getfield 58, 3) := by decide +kernel
theorem dX10_busiest_4 : decode cX10_busiest 4 = .ok (.invokevirtual 180, 3) := by decide +kernel
theorem dX10_busiest_7 : decode cX10_busiest 7 = .ok (.ireturn, 1) := by decide +kernel
theorem dX10_needs_0 : decode cX10_needs 0 = .ok (.aload_n 0, 1) := by decide +kernel
theorem dX10_needs_1 : decode cX10_needs 1 = .ok (.iload_n 1, 1) := by decide +kernel
theorem dX10_needs_2 : decode cX10_needs 2 = .ok (.invokevirtual 135, 3) := by decide +kernel
theorem dX10_needs_5 : decode cX10_needs 5 = .ok (.ifCond .eq 14, 3) := by decide +kernel
theorem dX10_needs_8 : decode cX10_needs 8 = .ok (.aload_n 0, 1) := by decide +kernel
theorem dX10_needs_9 : decode cX10_needs 9 = .ok (.getfield 71, 3) := by decide +kernel
theorem dX10_needs_12 : decode cX10_needs 12 = .ok (.iload_n 1, 1) := by decide +kernel
theorem dX10_needs_13 : decode cX10_needs 13 = .ok (.invokevirtual 184, 3) := by decide +kernel
theorem dX10_needs_16 : decode cX10_needs 16 = .ok (.goto 5, 3) := by decide +kernel
theorem dX10_needs_19 : decode cX10_needs 19 = .ok (.bipush (-2), 2) := by decide +kernel
theorem dX10_needs_21 : decode cX10_needs 21 = .ok (.ireturn, 1) := by decide +kernel
theorem dX10_lend_0 : decode cX10_lend 0 = .ok (.iload_n 1, 1) := by decide +kernel
theorem dX10_lend_1 : decode cX10_lend 1 = .ok (.iconst 3, 1) := by decide +kernel
theorem dX10_lend_2 : decode cX10_lend 2 = .ok (.invokestatic 100, 3) := by decide +kernel
theorem dX10_lend_5 : decode cX10_lend 5 = .ok (.ifCond .ne 6, 3) := by decide +kernel
theorem dX10_lend_8 : decode cX10_lend 8 = .ok (.bipush (-2), 2) := by decide +kernel
theorem dX10_lend_10 : decode cX10_lend 10 = .ok (.ireturn, 1) := by decide +kernel
theorem dX10_lend_11 : decode cX10_lend 11 = .ok (.aload_n 0, 1) := by decide +kernel
theorem dX10_lend_12 : decode cX10_lend 12 = .ok (.getfield 71, 3) := by decide +kernel
theorem dX10_lend_15 : decode cX10_lend 15 = .ok (.invokevirtual 187, 3) := by decide +kernel
theorem dX10_lend_18 : decode cX10_lend 18 = .ok (.iload_n 1, 1) := by decide +kernel
theorem dX10_lend_19 : decode cX10_lend 19 = .ok (.iconst 2, 1) := by decide +kernel
theorem dX10_lend_20 : decode cX10_lend 20 = .ok (.if_icmp .ne 11, 3) := by decide +kernel
theorem dX10_lend_23 : decode cX10_lend 23 = .ok (.aload_n 0, 1) := by decide +kernel
theorem dX10_lend_24 : decode cX10_lend 24 = .ok (.getfield 71, 3) := by decide +kernel
theorem dX10_lend_27 : decode cX10_lend 27 = .ok (.getfield 190, 3) := by decide +kernel
theorem dX10_lend_30 : decode cX10_lend 30 = .ok (.ireturn, 1) := by decide +kernel
theorem dX10_lend_31 : decode cX10_lend 31 = .ok (.iload_n 1, 1) := by decide +kernel
theorem dX10_lend_32 : decode cX10_lend 32 = .ok (.ifCond .ne 13, 3) := by decide +kernel
theorem dX10_lend_35 : decode cX10_lend 35 = .ok (.aload_n 0, 1) := by decide +kernel
theorem dX10_lend_36 : decode cX10_lend 36 = .ok (.getfield 71, 3) := by decide +kernel
theorem dX10_lend_39 : decode cX10_lend 39 = .ok (.getfield 193, 3) := by decide +kernel
theorem dX10_lend_42 : decode cX10_lend 42 = .ok (.goto 10, 3) := by decide +kernel
theorem dX10_lend_45 : decode cX10_lend 45 = .ok (.aload_n 0, 1) := by decide +kernel
theorem dX10_lend_46 : decode cX10_lend 46 = .ok (.getfield 71, 3) := by decide +kernel
theorem dX10_lend_49 : decode cX10_lend 49 = .ok (.getfield 196, 3) := by decide +kernel
theorem dX10_lend_52 : decode cX10_lend 52 = .ok (.ireturn, 1) := by decide +kernel
theorem dX10_delay_0 : decode cX10_delay 0 = .ok (.aload_n 0, 1) := by decide +kernel
theorem dX10_delay_1 : decode cX10_delay 1 = .ok (.iload_n 1, 1) := by decide +kernel
theorem dX10_delay_2 : decode cX10_delay 2 = .ok (.invokevirtual 135, 3) := by decide +kernel
theorem dX10_delay_5 : decode cX10_delay 5 = .ok (.ifCond .eq 11, 3) := by decide +kernel
theorem dX10_delay_8 : decode cX10_delay 8 = .ok (.iload_n 2, 1) := by decide +kernel
theorem dX10_delay_9 : decode cX10_delay 9 = .ok (.iconst 2, 1) := by decide +kernel
theorem dX10_delay_10 : decode cX10_delay 10 = .ok (.invokestatic 100, 3) := by decide +kernel
theorem dX10_delay_13 : decode cX10_delay 13 = .ok (.ifCond .ne 6, 3) := by decide +kernel
theorem dX10_delay_16 : decode cX10_delay 16 = .ok (.bipush (-2), 2) := by decide +kernel
theorem dX10_delay_18 : decode cX10_delay 18 = .ok (.ireturn, 1) := by decide +kernel
theorem dX10_delay_19 : decode cX10_delay 19 = .ok (.aload_n 0, 1) := by decide +kernel
theorem dX10_delay_20 : decode cX10_delay 20 = .ok (.getfield 71, 3) := by decide +kernel
theorem dX10_delay_23 : decode cX10_delay 23 = .ok (.iload_n 1, 1) := by decide +kernel
theorem dX10_delay_24 : decode cX10_delay 24 = .ok (.invokevirtual 199, 3) := by decide +kernel
theorem dX10_delay_27 : decode cX10_delay 27 = .ok (.iload_n 2, 1) := by decide +kernel
theorem dX10_delay_28 : decode cX10_delay 28 = .ok (.ifCond .ne 13, 3) := by decide +kernel
theorem dX10_delay_31 : decode cX10_delay 31 = .ok (.aload_n 0, 1) := by decide +kernel
theorem dX10_delay_32 : decode cX10_delay 32 = .ok (.getfield 71, 3) := by decide +kernel
theorem dX10_delay_35 : decode cX10_delay 35 = .ok (.getfield 193, 3) := by decide +kernel
theorem dX10_delay_38 : decode cX10_delay 38 = .ok (.goto 10, 3) := by decide +kernel
theorem dX10_delay_41 : decode cX10_delay 41 = .ok (.aload_n 0, 1) := by decide +kernel
theorem dX10_delay_42 : decode cX10_delay 42 = .ok (.getfield 71, 3) := by decide +kernel
theorem dX10_delay_45 : decode cX10_delay 45 = .ok (.getfield 190, 3) := by decide +kernel
theorem dX10_delay_48 : decode cX10_delay 48 = .ok (.ireturn, 1) := by decide +kernel
theorem dX10_level_0 : decode cX10_level 0 = .ok (.iload_n 1, 1) := by decide +kernel
theorem dX10_level_1 : decode cX10_level 1 = .ok (.iconst 2, 1) := by decide +kernel
theorem dX10_level_2 : decode cX10_level 2 = .ok (.invokestatic 100, 3) := by decide +kernel
theorem dX10_level_5 : decode cX10_level 5 = .ok (.ifCond .ne 6, 3) := by decide +kernel
theorem dX10_level_8 : decode cX10_level 8 = .ok (.bipush (-2), 2) := by decide +kernel
theorem dX10_level_10 : decode cX10_level 10 = .ok (.ireturn, 1) := by decide +kernel
theorem dX10_level_11 : decode cX10_level 11 = .ok (.aload_n 0, 1) := by decide +kernel
theorem dX10_level_12 : decode cX10_level 12 = .ok (.getfield 71, 3) := by decide +kernel
theorem dX10_level_15 : decode cX10_level 15 = .ok (.aload_n 0, 1) := by decide +kernel
theorem dX10_level_16 : decode cX10_level 16 = .ok (.getfield 18, 3) := by decide +kernel
theorem dX10_level_19 : decode cX10_level 19 = .ok (.invokevirtual 202, 3) := by decide +kernel
theorem dX10_level_22 : decode cX10_level 22 = .ok (.iload_n 1, 1) := by decide +kernel
theorem dX10_level_23 : decode cX10_level 23 = .ok (.ifCond .ne 13, 3) := by decide +kernel
theorem dX10_level_26 : decode cX10_level 26 = .ok (.aload_n 0, 1) := by decide +kernel
theorem dX10_level_27 : decode cX10_level 27 = .ok (.getfield 71, 3) := by decide +kernel
theorem dX10_level_30 : decode cX10_level 30 = .ok (.getfield 193, 3) := by decide +kernel
theorem dX10_level_33 : decode cX10_level 33 = .ok (.goto 10, 3) := by decide +kernel
theorem dX10_level_36 : decode cX10_level 36 = .ok (.aload_n 0, 1) := by decide +kernel
theorem dX10_level_37 : decode cX10_level 37 = .ok (.getfield 71, 3) := by decide +kernel
theorem dX10_level_40 : decode cX10_level 40 = .ok (.getfield 190, 3) := by decide +kernel
theorem dX10_level_43 : decode cX10_level 43 = .ok (.ireturn, 1) := by decide +kernel
theorem dX10_seen_0 : decode cX10_seen 0 = .ok (.iload_n 1, 1) := by decide +kernel
theorem dX10_seen_1 : decode cX10_seen 1 = .ok (.bipush 40, 2) := by decide +kernel
theorem dX10_seen_3 : decode cX10_seen 3 = .ok (.invokestatic 100, 3) := by decide +kernel
theorem dX10_seen_6 : decode cX10_seen 6 = .ok (.ifCond .eq 21, 3) := by decide +kernel
theorem dX10_seen_9 : decode cX10_seen 9 = .ok (.iload_n 2, 1) := by decide +kernel
theorem dX10_seen_10 : decode cX10_seen 10 = .ok (.bipush 8, 2) := by decide +kernel
theorem dX10_seen_12 : decode cX10_seen 12 = .ok (.invokestatic 100, 3) := by decide +kernel
theorem dX10_seen_15 : decode cX10_seen 15 = .ok (.ifCond .eq 12, 3) := by decide +kernel
theorem dX10_seen_18 : decode cX10_seen 18 = .ok (.iload_n 3, 1) := by decide +kernel
theorem dX10_seen_19 : decode cX10_seen 19 = .ok (.bipush 9, 2) := by decide +kernel
theorem dX10_seen_21 : decode cX10_seen 21 = .ok (.invokestatic 100, 3) := by decide +kernel
theorem dX10_seen_24 : decode cX10_seen 24 = .ok (.ifCond .ne 6, 3) := by decide +kernel
theorem dX10_seen_27 : decode cX10_seen 27 = .ok (.bipush (-2), 2) := by decide +kernel
theorem dX10_seen_29 : decode cX10_seen 29 = .ok (.ireturn, 1) := by decide +kernel
theorem dX10_seen_30 : decode cX10_seen 30 = .ok (.aload_n 0, 1) := by decide +kernel
theorem dX10_seen_31 : decode cX10_seen 31 = .ok (.getfield 78, 3) := by decide +kernel
theorem dX10_seen_34 : decode cX10_seen 34 = .ok (.getfield 206, 3) := by decide +kernel
theorem dX10_seen_37 : decode cX10_seen 37 = .ok (.bipush 8, 2) := by decide +kernel
theorem dX10_seen_39 : decode cX10_seen 39 = .ok (.if_icmp .lt 6, 3) := by decide +kernel
theorem dX10_seen_42 : decode cX10_seen 42 = .ok (.bipush (-4), 2) := by decide +kernel
theorem dX10_seen_44 : decode cX10_seen 44 = .ok (.ireturn, 1) := by decide +kernel
theorem dX10_seen_45 : decode cX10_seen 45 = .ok (.aload_n 0, 1) := by decide +kernel
theorem dX10_seen_46 : decode cX10_seen 46 = .ok (.getfield 78, 3) := by decide +kernel
theorem dX10_seen_49 : decode cX10_seen 49 = .ok (.iload_n 1, 1) := by decide +kernel
theorem dX10_seen_50 : decode cX10_seen 50 = .ok (.iload_n 2, 1) := by decide +kernel
theorem dX10_seen_51 : decode cX10_seen 51 = .ok (.iload_n 3, 1) := by decide +kernel
theorem dX10_seen_52 : decode cX10_seen 52 = .ok (.invokevirtual 207, 3) := by decide +kernel
theorem dX10_seen_55 : decode cX10_seen 55 = .ok (.aload_n 0, 1) := by decide +kernel
theorem dX10_seen_56 : decode cX10_seen 56 = .ok (.getfield 78, 3) := by decide +kernel
theorem dX10_seen_59 : decode cX10_seen 59 = .ok (.getfield 206, 3) := by decide +kernel
theorem dX10_seen_62 : decode cX10_seen 62 = .ok (.ireturn, 1) := by decide +kernel
theorem dX10_forget_0 : decode cX10_forget 0 = .ok (.aload_n 0, 1) := by decide +kernel
theorem dX10_forget_1 : decode cX10_forget 1 = .ok (.getfield 78, 3) := by decide +kernel
theorem dX10_forget_4 : decode cX10_forget 4 = .ok (.getfield 206, 3) := by decide +kernel
theorem dX10_forget_7 : decode cX10_forget 7 = .ok (.istore_n 1, 1) := by decide +kernel
theorem dX10_forget_8 : decode cX10_forget 8 = .ok (.aload_n 0, 1) := by decide +kernel
theorem dX10_forget_9 : decode cX10_forget 9 = .ok (.getfield 78, 3) := by decide +kernel
theorem dX10_forget_12 : decode cX10_forget 12 = .ok (.iconst 0, 1) := by decide +kernel
theorem dX10_forget_13 : decode cX10_forget 13 = .ok (.putfield 206, 3) := by decide +kernel
theorem dX10_forget_16 : decode cX10_forget 16 = .ok (.iload_n 1, 1) := by decide +kernel
theorem dX10_forget_17 : decode cX10_forget 17 = .ok (.ireturn, 1) := by decide +kernel
theorem dX10_never_0 : decode cX10_never 0 = .ok (.aload_n 0, 1) := by decide +kernel
theorem dX10_never_1 : decode cX10_never 1 = .ok (.getfield 78, 3) := by decide +kernel
theorem dX10_never_4 : decode cX10_never 4 = .ok (.invokevirtual 210, 3) := by decide +kernel
theorem dX10_never_7 : decode cX10_never 7 = .ok (.ireturn, 1) := by decide +kernel
theorem dX10_sort_0 : decode cX10_sort 0 = .ok (.aload_n 0, 1) := by decide +kernel
theorem dX10_sort_1 : decode cX10_sort 1 = .ok (.iload_n 1, 1) := by decide +kernel
theorem dX10_sort_2 : decode cX10_sort 2 = .ok (.invokevirtual 135, 3) := by decide +kernel
theorem dX10_sort_5 : decode cX10_sort 5 = .ok (.ifCond .eq 14, 3) := by decide +kernel
theorem dX10_sort_8 : decode cX10_sort 8 = .ok (.aload_n 0, 1) := by decide +kernel
theorem dX10_sort_9 : decode cX10_sort 9 = .ok (.getfield 78, 3) := by decide +kernel
theorem dX10_sort_12 : decode cX10_sort 12 = .ok (.iload_n 1, 1) := by decide +kernel
theorem dX10_sort_13 : decode cX10_sort 13 = .ok (.invokevirtual 213, 3) := by decide +kernel
theorem dX10_sort_16 : decode cX10_sort 16 = .ok (.goto 5, 3) := by decide +kernel
theorem dX10_sort_19 : decode cX10_sort 19 = .ok (.bipush (-2), 2) := by decide +kernel
theorem dX10_sort_21 : decode cX10_sort 21 = .ok (.ireturn, 1) := by decide +kernel
theorem dX10_force_0 : decode cX10_force 0 = .ok (.aload_n 0, 1) := by decide +kernel
theorem dX10_force_1 : decode cX10_force 1 = .ok (.iload_n 1, 1) := by decide +kernel
theorem dX10_force_2 : decode cX10_force 2 = .ok (.invokevirtual 135, 3) := by decide +kernel
theorem dX10_force_5 : decode cX10_force 5 = .ok (.ifCond .eq 11, 3) := by decide +kernel
theorem dX10_force_8 : decode cX10_force 8 = .ok (.iload_n 2, 1) := by decide +kernel
theorem dX10_force_9 : decode cX10_force 9 = .ok (.iconst 3, 1) := by decide +kernel
theorem dX10_force_10 : decode cX10_force 10 = .ok (.invokestatic 100, 3) := by decide +kernel
theorem dX10_force_13 : decode cX10_force 13 = .ok (.ifCond .ne 6, 3) := by decide +kernel
theorem dX10_force_16 : decode cX10_force 16 = .ok (.bipush (-2), 2) := by decide +kernel
theorem dX10_force_18 : decode cX10_force 18 = .ok (.ireturn, 1) := by decide +kernel
theorem dX10_force_19 : decode cX10_force 19 = .ok (.aload_n 0, 1) := by decide +kernel
theorem dX10_force_20 : decode cX10_force 20 = .ok (.getfield 78, 3) := by decide +kernel
theorem dX10_force_23 : decode cX10_force 23 = .ok (.iload_n 1, 1) := by decide +kernel
theorem dX10_force_24 : decode cX10_force 24 = .ok (.invokevirtual 216, 3) := by decide +kernel
theorem dX10_force_27 : decode cX10_force 27 = .ok (.iload_n 2, 1) := by decide +kernel
theorem dX10_force_28 : decode cX10_force 28 = .ok (.ifCond .ne 11, 3) := by decide +kernel
theorem dX10_force_31 : decode cX10_force 31 = .ok (.aload_n 0, 1) := by decide +kernel
theorem dX10_force_32 : decode cX10_force 32 = .ok (.getfield 78, 3) := by decide +kernel
theorem dX10_force_35 : decode cX10_force 35 = .ok (.getfield 219, 3) := by decide +kernel
theorem dX10_force_38 : decode cX10_force 38 = .ok (.ireturn, 1) := by decide +kernel
theorem dX10_force_39 : decode cX10_force 39 = .ok (.iload_n 2, 1) := by decide +kernel
theorem dX10_force_40 : decode cX10_force 40 = .ok (.iconst 1, 1) := by decide +kernel
theorem dX10_force_41 : decode cX10_force 41 = .ok (.if_icmp .ne 13, 3) := by decide +kernel
theorem dX10_force_44 : decode cX10_force 44 = .ok (.aload_n 0, 1) := by decide +kernel
theorem dX10_force_45 : decode cX10_force 45 = .ok (.getfield 78, 3) := by decide +kernel
theorem dX10_force_48 : decode cX10_force 48 = .ok (.getfield 222, 3) := by decide +kernel
theorem dX10_force_51 : decode cX10_force 51 = .ok (.goto 10, 3) := by decide +kernel
theorem dX10_force_54 : decode cX10_force 54 = .ok (.aload_n 0, 1) := by decide +kernel
theorem dX10_force_55 : decode cX10_force 55 = .ok (.getfield 78, 3) := by decide +kernel
theorem dX10_force_58 : decode cX10_force 58 = .ok (.getfield 225, 3) := by decide +kernel
theorem dX10_force_61 : decode cX10_force 61 = .ok (.ireturn, 1) := by decide +kernel
theorem dX10_ask_0 : decode cX10_ask 0 = .ok (.aload_n 0, 1) := by decide +kernel
theorem dX10_ask_1 : decode cX10_ask 1 = .ok (.iload_n 1, 1) := by decide +kernel
theorem dX10_ask_2 : decode cX10_ask 2 = .ok (.invokevirtual 135, 3) := by decide +kernel
theorem dX10_ask_5 : decode cX10_ask 5 = .ok (.ifCond .ne 6, 3) := by decide +kernel
theorem dX10_ask_8 : decode cX10_ask 8 = .ok (.bipush (-2), 2) := by decide +kernel
theorem dX10_ask_10 : decode cX10_ask 10 = .ok (.ireturn, 1) := by decide +kernel
theorem dX10_ask_11 : decode cX10_ask 11 = .ok (.aload_n 0, 1) := by decide +kernel
theorem dX10_ask_12 : decode cX10_ask 12 = .ok (.getfield 78, 3) := by decide +kernel
theorem dX10_ask_15 : decode cX10_ask 15 = .ok (.iload_n 1, 1) := by decide +kernel
theorem dX10_ask_16 : decode cX10_ask 16 = .ok (.invokevirtual 213, 3) := by decide +kernel
theorem dX10_ask_19 : decode cX10_ask 19 = .ok (.pop, 1) := by decide +kernel
theorem dX10_ask_20 : decode cX10_ask 20 = .ok (.aload_n 0, 1) := by decide +kernel
theorem dX10_ask_21 : decode cX10_ask 21 = .ok (.getfield 78, 3) := by decide +kernel
theorem dX10_ask_24 : decode cX10_ask 24 = .ok (.invokevirtual 228, 3) := by decide +kernel
theorem dX10_ask_27 : decode cX10_ask 27 = .ok (.ireturn, 1) := by decide +kernel
theorem dX10_rumour_0 : decode cX10_rumour 0 = .ok (.iload_n 1, 1) := by decide +kernel
theorem dX10_rumour_1 : decode cX10_rumour 1 = .ok (.bipush 17, 2) := by decide +kernel
theorem dX10_rumour_3 : decode cX10_rumour 3 = .ok (.invokestatic 100, 3) := by decide +kernel
theorem dX10_rumour_6 : decode cX10_rumour 6 = .ok (.ifCond .eq 19, 3) := by decide +kernel
theorem dX10_rumour_9 : decode cX10_rumour 9 = .ok (.aload_n 0, 1) := by decide +kernel
theorem dX10_rumour_10 : decode cX10_rumour 10 = .ok (.iload_n 2, 1) := by decide +kernel
theorem dX10_rumour_11 : decode cX10_rumour 11 = .ok (.invokevirtual 135, 3) := by decide +kernel
theorem dX10_rumour_14 : decode cX10_rumour 14 = .ok (.ifCond .eq 11, 3) := by decide +kernel
theorem dX10_rumour_17 : decode cX10_rumour 17 = .ok (.iload_n 3, 1) := by decide +kernel
theorem dX10_rumour_18 : decode cX10_rumour 18 = .ok (.iconst 2, 1) := by decide +kernel
theorem dX10_rumour_19 : decode cX10_rumour 19 = .ok (.invokestatic 100, 3) := by decide +kernel
theorem dX10_rumour_22 : decode cX10_rumour 22 = .ok (.ifCond .ne 7, 3) := by decide +kernel
theorem dX10_rumour_25 : decode cX10_rumour 25 = .ok (.ldc2_w 231, 3) := by decide +kernel
theorem dX10_rumour_28 : decode cX10_rumour 28 = .ok (.lreturn, 1) := by decide +kernel
theorem dX10_rumour_29 : decode cX10_rumour 29 = .ok (.aload_n 0, 1) := by decide +kernel
theorem dX10_rumour_30 : decode cX10_rumour 30 = .ok (.getfield 85, 3) := by decide +kernel
theorem dX10_rumour_33 : decode cX10_rumour 33 = .ok (.iload_n 1, 1) := by decide +kernel
theorem dX10_rumour_34 : decode cX10_rumour 34 = .ok (.invokevirtual 233, 3) := by decide +kernel
theorem dX10_rumour_37 : decode cX10_rumour 37 = .ok (.aload_n 0, 1) := by decide +kernel
theorem dX10_rumour_38 : decode cX10_rumour 38 = .ok (.getfield 85, 3) := by decide +kernel
theorem dX10_rumour_41 : decode cX10_rumour 41 = .ok (.iload_n 2, 1) := by decide +kernel
theorem dX10_rumour_42 : decode cX10_rumour 42 = .ok (.invokevirtual 236, 3) := by decide +kernel
theorem dX10_rumour_45 : decode cX10_rumour 45 = .ok (.iload_n 3, 1) := by decide +kernel
theorem dX10_rumour_46 : decode cX10_rumour 46 = .ok (.ifCond .ne 13, 3) := by decide +kernel
theorem dX10_rumour_49 : decode cX10_rumour 49 = .ok (.aload_n 0, 1) := by decide +kernel
theorem dX10_rumour_50 : decode cX10_rumour 50 = .ok (.getfield 85, 3) := by decide +kernel
theorem dX10_rumour_53 : decode cX10_rumour 53 = .ok (.getfield 239, 3) := by decide +kernel
theorem dX10_rumour_56 : decode cX10_rumour 56 = .ok (.goto 10, 3) := by decide +kernel
theorem dX10_rumour_59 : decode cX10_rumour 59 = .ok (.aload_n 0, 1) := by decide +kernel
theorem dX10_rumour_60 : decode cX10_rumour 60 = .ok (.getfield 85, 3) := by decide +kernel
theorem dX10_rumour_63 : decode cX10_rumour 63 = .ok (.getfield 243, 3) := by decide +kernel
theorem dX10_rumour_66 : decode cX10_rumour 66 = .ok (.lreturn, 1) := by decide +kernel
theorem dX10_market_0 : decode cX10_market 0 = .ok (.iload_n 2, 1) := by decide +kernel
theorem dX10_market_1 : decode cX10_market 1 = .ok (.iconst 2, 1) := by decide +kernel
theorem dX10_market_2 : decode cX10_market 2 = .ok (.invokestatic 100, 3) := by decide +kernel
theorem dX10_market_5 : decode cX10_market 5 = .ok (.ifCond .ne 6, 3) := by decide +kernel
theorem dX10_market_8 : decode cX10_market 8 = .ok (.bipush (-2), 2) := by decide +kernel
theorem dX10_market_10 : decode cX10_market 10 = .ok (.ireturn, 1) := by decide +kernel
theorem dX10_market_11 : decode cX10_market 11 = .ok (.aload_n 0, 1) := by decide +kernel
theorem dX10_market_12 : decode cX10_market 12 = .ok (.getfield 85, 3) := by decide +kernel
theorem dX10_market_15 : decode cX10_market 15 = .ok (.iload_n 1, 1) := by decide +kernel
theorem dX10_market_16 : decode cX10_market 16 = .ok (.iload_n 2, 1) := by decide +kernel
theorem dX10_market_17 : decode cX10_market 17 = .ok (.ifCond .ne 7, 3) := by decide +kernel
theorem dX10_market_20 : decode cX10_market 20 = .ok (.iconst 2, 1) := by decide +kernel
theorem dX10_market_21 : decode cX10_market 21 = .ok (.goto 4, 3) := by decide +kernel
theorem dX10_market_24 : decode cX10_market 24 = .ok (.iconst 4, 1) := by decide +kernel
theorem dX10_market_25 : decode cX10_market 25 = .ok (.invokevirtual 246, 3) := by decide +kernel
theorem dX10_market_28 : decode cX10_market 28 = .ok (.ireturn, 1) := by decide +kernel
theorem dX10_sheet_0 : decode cX10_sheet 0 = .ok (.iload_n 1, 1) := by decide +kernel
theorem dX10_sheet_1 : decode cX10_sheet 1 = .ok (.iconst 4, 1) := by decide +kernel
theorem dX10_sheet_2 : decode cX10_sheet 2 = .ok (.invokestatic 100, 3) := by decide +kernel
theorem dX10_sheet_5 : decode cX10_sheet 5 = .ok (.ifCond .eq 17, 3) := by decide +kernel
theorem dX10_sheet_8 : decode cX10_sheet 8 = .ok (.iload_n 2, 1) := by decide +kernel
theorem dX10_sheet_9 : decode cX10_sheet 9 = .ok (.iconst 3, 1) := by decide +kernel
theorem dX10_sheet_10 : decode cX10_sheet 10 = .ok (.invokestatic 100, 3) := by decide +kernel
theorem dX10_sheet_13 : decode cX10_sheet 13 = .ok (.ifCond .eq 9, 3) := by decide +kernel
theorem dX10_sheet_16 : decode cX10_sheet 16 = .ok (.iload_n 3, 1) := by decide +kernel
theorem dX10_sheet_17 : decode cX10_sheet 17 = .ok (.bipush 60, 2) := by decide +kernel
theorem dX10_sheet_19 : decode cX10_sheet 19 = .ok (.if_icmp .le 6, 3) := by decide +kernel
theorem dX10_sheet_22 : decode cX10_sheet 22 = .ok (.bipush (-2), 2) := by decide +kernel
theorem dX10_sheet_24 : decode cX10_sheet 24 = .ok (.ireturn, 1) := by decide +kernel
theorem dX10_sheet_25 : decode cX10_sheet 25 = .ok (.iload_n 3, 1) := by decide +kernel
theorem dX10_sheet_26 : decode cX10_sheet 26 = .ok (.ifCond .ge 9, 3) := by decide +kernel
theorem dX10_sheet_29 : decode cX10_sheet 29 = .ok (.aload_n 0, 1) := by decide +kernel
theorem dX10_sheet_30 : decode cX10_sheet 30 = .ok (.iconst 5, 1) := by decide +kernel
theorem dX10_sheet_31 : decode cX10_sheet 31 = .ok (.invokevirtual 154, 3) := by decide +kernel
theorem dX10_sheet_34 : decode cX10_sheet 34 = .ok (.ireturn, 1) := by decide +kernel
end
section
theorem dX10_sheet_35 : decode cX10_sheet 35 = .ok (.aload_n 0, 1) := by decide +kernel
theorem dX10_sheet_36 : decode cX10_sheet 36 = .ok (.getfield 91, 3) := by decide +kernel
theorem dX10_sheet_39 : decode cX10_sheet 39 = .ok (.iload_n 1, 1) := by decide +kernel
theorem dX10_sheet_40 : decode cX10_sheet 40 = .ok (.aaload, 1) := by decide +kernel
theorem dX10_sheet_41 : decode cX10_sheet 41 = .ok (.iload_n 2, 1) := by decide +kernel
theorem dX10_sheet_42 : decode cX10_sheet 42 = .ok (.iload_n 3, 1) := by decide +kernel
theorem dX10_sheet_43 : decode cX10_sheet 43 = .ok (.invokevirtual 249, 3) := by decide +kernel
theorem dX10_sheet_46 : decode cX10_sheet 46 = .ok (.iload_n 3, 1) := by decide +kernel
theorem dX10_sheet_47 : decode cX10_sheet 47 = .ok (.ireturn, 1) := by decide +kernel
theorem dX10_lose_0 : decode cX10_lose 0 = .ok (.iload_n 1, 1) := by decide +kernel
theorem dX10_lose_1 : decode cX10_lose 1 = .ok (.iconst 4, 1) := by decide +kernel
theorem dX10_lose_2 : decode cX10_lose 2 = .ok (.invokestatic 100, 3) := by decide +kernel
theorem dX10_lose_5 : decode cX10_lose 5 = .ok (.ifCond .ne 6, 3) := by decide +kernel
theorem dX10_lose_8 : decode cX10_lose 8 = .ok (.bipush (-2), 2) := by decide +kernel
theorem dX10_lose_10 : decode cX10_lose 10 = .ok (.ireturn, 1) := by decide +kernel
theorem dX10_lose_11 : decode cX10_lose 11 = .ok (.aload_n 0, 1) := by decide +kernel
theorem dX10_lose_12 : decode cX10_lose 12 = .ok (.getfield 91, 3) := by decide +kernel
theorem dX10_lose_15 : decode cX10_lose 15 = .ok (.iload_n 1, 1) := by decide +kernel
theorem dX10_lose_16 : decode cX10_lose 16 = .ok (.aaload, 1) := by decide +kernel
theorem dX10_lose_17 : decode cX10_lose 17 = .ok (.getfield 150, 3) := by decide +kernel
theorem dX10_lose_20 : decode cX10_lose 20 = .ok (.ifCond .eq 9, 3) := by decide +kernel
theorem dX10_lose_23 : decode cX10_lose 23 = .ok (.aload_n 0, 1) := by decide +kernel
theorem dX10_lose_24 : decode cX10_lose 24 = .ok (.iconst 1, 1) := by decide +kernel
theorem dX10_lose_25 : decode cX10_lose 25 = .ok (.invokevirtual 154, 3) := by decide +kernel
theorem dX10_lose_28 : decode cX10_lose 28 = .ok (.ireturn, 1) := by decide +kernel
theorem dX10_lose_29 : decode cX10_lose 29 = .ok (.aload_n 0, 1) := by decide +kernel
theorem dX10_lose_30 : decode cX10_lose 30 = .ok (.getfield 91, 3) := by decide +kernel
theorem dX10_lose_33 : decode cX10_lose 33 = .ok (.iload_n 1, 1) := by decide +kernel
theorem dX10_lose_34 : decode cX10_lose 34 = .ok (.aaload, 1) := by decide +kernel
theorem dX10_lose_35 : decode cX10_lose 35 = .ok (.iconst 1, 1) := by decide +kernel
theorem dX10_lose_36 : decode cX10_lose 36 = .ok (.putfield 150, 3) := by decide +kernel
theorem dX10_lose_39 : decode cX10_lose 39 = .ok (.aload_n 0, 1) := by decide +kernel
theorem dX10_lose_40 : decode cX10_lose 40 = .ok (.getfield 91, 3) := by decide +kernel
theorem dX10_lose_43 : decode cX10_lose 43 = .ok (.iload_n 1, 1) := by decide +kernel
theorem dX10_lose_44 : decode cX10_lose 44 = .ok (.aaload, 1) := by decide +kernel
theorem dX10_lose_45 : decode cX10_lose 45 = .ok (.getfield 158, 3) := by decide +kernel
theorem dX10_lose_48 : decode cX10_lose 48 = .ok (.ireturn, 1) := by decide +kernel
theorem dX10_lay_0 : decode cX10_lay 0 = .ok (.aload_n 0, 1) := by decide +kernel
theorem dX10_lay_1 : decode cX10_lay 1 = .ok (.iload_n 1, 1) := by decide +kernel
theorem dX10_lay_2 : decode cX10_lay 2 = .ok (.iload_n 2, 1) := by decide +kernel
theorem dX10_lay_3 : decode cX10_lay 3 = .ok (.iload_n 3, 1) := by decide +kernel
theorem dX10_lay_4 : decode cX10_lay 4 = .ok (.invokevirtual 252, 3) := by decide +kernel
theorem dX10_lay_7 : decode cX10_lay 7 = .ok (.istore 5, 2) := by decide +kernel
theorem dX10_lay_9 : decode cX10_lay 9 = .ok (.iload 5, 2) := by decide +kernel
theorem dX10_lay_11 : decode cX10_lay 11 = .ok (.ifCond .eq 6, 3) := by decide +kernel
theorem dX10_lay_14 : decode cX10_lay 14 = .ok (.iload 5, 2) := by decide +kernel
theorem dX10_lay_16 : decode cX10_lay 16 = .ok (.ireturn, 1) := by decide +kernel
theorem dX10_lay_17 : decode cX10_lay 17 = .ok (.aload_n 0, 1) := by decide +kernel
theorem dX10_lay_18 : decode cX10_lay 18 = .ok (.getfield 91, 3) := by decide +kernel
theorem dX10_lay_21 : decode cX10_lay 21 = .ok (.iload_n 1, 1) := by decide +kernel
theorem dX10_lay_22 : decode cX10_lay 22 = .ok (.aaload, 1) := by decide +kernel
theorem dX10_lay_23 : decode cX10_lay 23 = .ok (.iload_n 3, 1) := by decide +kernel
theorem dX10_lay_24 : decode cX10_lay 24 = .ok (.iload 4, 2) := by decide +kernel
theorem dX10_lay_26 : decode cX10_lay 26 = .ok (.invokevirtual 255, 3) := by decide +kernel
theorem dX10_lay_29 : decode cX10_lay 29 = .ok (.iconst 1, 1) := by decide +kernel
theorem dX10_lay_30 : decode cX10_lay 30 = .ok (.ireturn, 1) := by decide +kernel
theorem dX10_get_0 : decode cX10_get 0 = .ok (.aload_n 0, 1) := by decide +kernel
theorem dX10_get_1 : decode cX10_get 1 = .ok (.iload_n 1, 1) := by decide +kernel
theorem dX10_get_2 : decode cX10_get 2 = .ok (.iload_n 2, 1) := by decide +kernel
theorem dX10_get_3 : decode cX10_get 3 = .ok (.iload_n 3, 1) := by decide +kernel
theorem dX10_get_4 : decode cX10_get 4 = .ok (.invokevirtual 252, 3) := by decide +kernel
theorem dX10_get_7 : decode cX10_get 7 = .ok (.ifCond .eq 9, 3) := by decide +kernel
theorem dX10_get_10 : decode cX10_get 10 = .ok (.ldc_w 258, 3) := by decide +kernel
theorem dX10_get_13 : decode cX10_get 13 = .ok (.goto 14, 3) := by decide +kernel
theorem dX10_get_16 : decode cX10_get 16 = .ok (.aload_n 0, 1) := by decide +kernel
theorem dX10_get_17 : decode cX10_get 17 = .ok (.getfield 91, 3) := by decide +kernel
theorem dX10_get_20 : decode cX10_get 20 = .ok (.iload_n 1, 1) := by decide +kernel
theorem dX10_get_21 : decode cX10_get 21 = .ok (.aaload, 1) := by decide +kernel
theorem dX10_get_22 : decode cX10_get 22 = .ok (.getfield 159, 3) := by decide +kernel
theorem dX10_get_25 : decode cX10_get 25 = .ok (.iload_n 3, 1) := by decide +kernel
theorem dX10_get_26 : decode cX10_get 26 = .ok (.iaload, 1) := by decide +kernel
theorem dX10_get_27 : decode cX10_get 27 = .ok (.ireturn, 1) := by decide +kernel
theorem dX10_copy_0 : decode cX10_copy 0 = .ok (.iload_n 1, 1) := by decide +kernel
theorem dX10_copy_1 : decode cX10_copy 1 = .ok (.iconst 4, 1) := by decide +kernel
theorem dX10_copy_2 : decode cX10_copy 2 = .ok (.invokestatic 100, 3) := by decide +kernel
theorem dX10_copy_5 : decode cX10_copy 5 = .ok (.ifCond .eq 11, 3) := by decide +kernel
theorem dX10_copy_8 : decode cX10_copy 8 = .ok (.iload_n 3, 1) := by decide +kernel
theorem dX10_copy_9 : decode cX10_copy 9 = .ok (.iconst 4, 1) := by decide +kernel
theorem dX10_copy_10 : decode cX10_copy 10 = .ok (.invokestatic 100, 3) := by decide +kernel
theorem dX10_copy_13 : decode cX10_copy 13 = .ok (.ifCond .ne 6, 3) := by decide +kernel
theorem dX10_copy_16 : decode cX10_copy 16 = .ok (.bipush (-2), 2) := by decide +kernel
theorem dX10_copy_18 : decode cX10_copy 18 = .ok (.ireturn, 1) := by decide +kernel
theorem dX10_copy_19 : decode cX10_copy 19 = .ok (.aload_n 0, 1) := by decide +kernel
theorem dX10_copy_20 : decode cX10_copy 20 = .ok (.getfield 91, 3) := by decide +kernel
theorem dX10_copy_23 : decode cX10_copy 23 = .ok (.iload_n 1, 1) := by decide +kernel
theorem dX10_copy_24 : decode cX10_copy 24 = .ok (.aaload, 1) := by decide +kernel
theorem dX10_copy_25 : decode cX10_copy 25 = .ok (.astore 6, 2) := by decide +kernel
theorem dX10_copy_27 : decode cX10_copy 27 = .ok (.aload_n 0, 1) := by decide +kernel
theorem dX10_copy_28 : decode cX10_copy 28 = .ok (.getfield 91, 3) := by decide +kernel
theorem dX10_copy_31 : decode cX10_copy 31 = .ok (.iload_n 3, 1) := by decide +kernel
theorem dX10_copy_32 : decode cX10_copy 32 = .ok (.aaload, 1) := by decide +kernel
theorem dX10_copy_33 : decode cX10_copy 33 = .ok (.astore 7, 2) := by decide +kernel
theorem dX10_copy_35 : decode cX10_copy 35 = .ok (.aload 6, 2) := by decide +kernel
theorem dX10_copy_37 : decode cX10_copy 37 = .ok (.getfield 150, 3) := by decide +kernel
theorem dX10_copy_40 : decode cX10_copy 40 = .ok (.ifCond .ne 11, 3) := by decide +kernel
theorem dX10_copy_43 : decode cX10_copy 43 = .ok (.aload 7, 2) := by decide +kernel
theorem dX10_copy_45 : decode cX10_copy 45 = .ok (.getfield 150, 3) := by decide +kernel
theorem dX10_copy_48 : decode cX10_copy 48 = .ok (.ifCond .eq 9, 3) := by decide +kernel
theorem dX10_copy_51 : decode cX10_copy 51 = .ok (.aload_n 0, 1) := by decide +kernel
theorem dX10_copy_52 : decode cX10_copy 52 = .ok (.iconst 1, 1) := by decide +kernel
theorem dX10_copy_53 : decode cX10_copy 53 = .ok (.invokevirtual 154, 3) := by decide +kernel
theorem dX10_copy_56 : decode cX10_copy 56 = .ok (.ireturn, 1) := by decide +kernel
theorem dX10_copy_57 : decode cX10_copy 57 = .ok (.aload 6, 2) := by decide +kernel
theorem dX10_copy_59 : decode cX10_copy 59 = .ok (.getfield 259, 3) := by decide +kernel
theorem dX10_copy_62 : decode cX10_copy 62 = .ok (.aload 7, 2) := by decide +kernel
theorem dX10_copy_64 : decode cX10_copy 64 = .ok (.getfield 259, 3) := by decide +kernel
theorem dX10_copy_67 : decode cX10_copy 67 = .ok (.if_icmp .eq 9, 3) := by decide +kernel
theorem dX10_copy_70 : decode cX10_copy 70 = .ok (.aload_n 0, 1) := by decide +kernel
theorem dX10_copy_71 : decode cX10_copy 71 = .ok (.iconst 4, 1) := by decide +kernel
theorem dX10_copy_72 : decode cX10_copy 72 = .ok (.invokevirtual 154, 3) := by decide +kernel
theorem dX10_copy_75 : decode cX10_copy 75 = .ok (.ireturn, 1) := by decide +kernel
theorem dX10_copy_76 : decode cX10_copy 76 = .ok (.aload 6, 2) := by decide +kernel
theorem dX10_copy_78 : decode cX10_copy 78 = .ok (.iload_n 2, 1) := by decide +kernel
theorem dX10_copy_79 : decode cX10_copy 79 = .ok (.iload 5, 2) := by decide +kernel
theorem dX10_copy_81 : decode cX10_copy 81 = .ok (.invokevirtual 262, 3) := by decide +kernel
theorem dX10_copy_84 : decode cX10_copy 84 = .ok (.ifCond .eq 15, 3) := by decide +kernel
theorem dX10_copy_87 : decode cX10_copy 87 = .ok (.aload 7, 2) := by decide +kernel
theorem dX10_copy_89 : decode cX10_copy 89 = .ok (.iload 4, 2) := by decide +kernel
theorem dX10_copy_91 : decode cX10_copy 91 = .ok (.iload 5, 2) := by decide +kernel
theorem dX10_copy_93 : decode cX10_copy 93 = .ok (.invokevirtual 262, 3) := by decide +kernel
theorem dX10_copy_96 : decode cX10_copy 96 = .ok (.ifCond .ne 9, 3) := by decide +kernel
theorem dX10_copy_99 : decode cX10_copy 99 = .ok (.aload_n 0, 1) := by decide +kernel
theorem dX10_copy_100 : decode cX10_copy 100 = .ok (.iconst 2, 1) := by decide +kernel
theorem dX10_copy_101 : decode cX10_copy 101 = .ok (.invokevirtual 154, 3) := by decide +kernel
theorem dX10_copy_104 : decode cX10_copy 104 = .ok (.ireturn, 1) := by decide +kernel
theorem dX10_copy_105 : decode cX10_copy 105 = .ok (.aload 6, 2) := by decide +kernel
theorem dX10_copy_107 : decode cX10_copy 107 = .ok (.getfield 159, 3) := by decide +kernel
theorem dX10_copy_110 : decode cX10_copy 110 = .ok (.iload_n 2, 1) := by decide +kernel
theorem dX10_copy_111 : decode cX10_copy 111 = .ok (.aload 7, 2) := by decide +kernel
theorem dX10_copy_113 : decode cX10_copy 113 = .ok (.getfield 159, 3) := by decide +kernel
theorem dX10_copy_116 : decode cX10_copy 116 = .ok (.iload 4, 2) := by decide +kernel
theorem dX10_copy_118 : decode cX10_copy 118 = .ok (.iload 5, 2) := by decide +kernel
theorem dX10_copy_120 : decode cX10_copy 120 = .ok (.invokestatic 265, 3) := by decide +kernel
theorem dX10_copy_123 : decode cX10_copy 123 = .ok (.iconst 1, 1) := by decide +kernel
theorem dX10_copy_124 : decode cX10_copy 124 = .ok (.ireturn, 1) := by decide +kernel
theorem dX10_write_0 : decode cX10_write 0 = .ok (.aload_n 0, 1) := by decide +kernel
theorem dX10_write_1 : decode cX10_write 1 = .ok (.iload_n 1, 1) := by decide +kernel
theorem dX10_write_2 : decode cX10_write 2 = .ok (.invokevirtual 135, 3) := by decide +kernel
theorem dX10_write_5 : decode cX10_write 5 = .ok (.ifCond .eq 11, 3) := by decide +kernel
theorem dX10_write_8 : decode cX10_write 8 = .ok (.iload_n 2, 1) := by decide +kernel
theorem dX10_write_9 : decode cX10_write 9 = .ok (.iconst 4, 1) := by decide +kernel
theorem dX10_write_10 : decode cX10_write 10 = .ok (.invokestatic 100, 3) := by decide +kernel
theorem dX10_write_13 : decode cX10_write 13 = .ok (.ifCond .ne 6, 3) := by decide +kernel
theorem dX10_write_16 : decode cX10_write 16 = .ok (.bipush (-2), 2) := by decide +kernel
theorem dX10_write_18 : decode cX10_write 18 = .ok (.ireturn, 1) := by decide +kernel
theorem dX10_write_19 : decode cX10_write 19 = .ok (.aload_n 0, 1) := by decide +kernel
theorem dX10_write_20 : decode cX10_write 20 = .ok (.getfield 91, 3) := by decide +kernel
theorem dX10_write_23 : decode cX10_write 23 = .ok (.iload_n 2, 1) := by decide +kernel
theorem dX10_write_24 : decode cX10_write 24 = .ok (.aaload, 1) := by decide +kernel
theorem dX10_write_25 : decode cX10_write 25 = .ok (.astore_n 3, 1) := by decide +kernel
theorem dX10_write_26 : decode cX10_write 26 = .ok (.aload_n 3, 1) := by decide +kernel
theorem dX10_write_27 : decode cX10_write 27 = .ok (.getfield 150, 3) := by decide +kernel
theorem dX10_write_30 : decode cX10_write 30 = .ok (.ifCond .eq 9, 3) := by decide +kernel
theorem dX10_write_33 : decode cX10_write 33 = .ok (.aload_n 0, 1) := by decide +kernel
theorem dX10_write_34 : decode cX10_write 34 = .ok (.iconst 1, 1) := by decide +kernel
theorem dX10_write_35 : decode cX10_write 35 = .ok (.invokevirtual 154, 3) := by decide +kernel
theorem dX10_write_38 : decode cX10_write 38 = .ok (.ireturn, 1) := by decide +kernel
theorem dX10_write_39 : decode cX10_write 39 = .ok (.aload_n 3, 1) := by decide +kernel
theorem dX10_write_40 : decode cX10_write 40 = .ok (.getfield 158, 3) := by decide +kernel
theorem dX10_write_43 : decode cX10_write 43 = .ok (.bipush 40, 2) := by decide +kernel
theorem dX10_write_45 : decode cX10_write 45 = .ok (.invokestatic 271, 3) := by decide +kernel
theorem dX10_write_48 : decode cX10_write 48 = .ok (.istore 4, 2) := by decide +kernel
theorem dX10_write_50 : decode cX10_write 50 = .ok (.iconst 0, 1) := by decide +kernel
theorem dX10_write_51 : decode cX10_write 51 = .ok (.istore 5, 2) := by decide +kernel
theorem dX10_write_53 : decode cX10_write 53 = .ok (.iload 5, 2) := by decide +kernel
theorem dX10_write_55 : decode cX10_write 55 = .ok (.iload 4, 2) := by decide +kernel
theorem dX10_write_57 : decode cX10_write 57 = .ok (.if_icmp .ge 25, 3) := by decide +kernel
theorem dX10_write_60 : decode cX10_write 60 = .ok (.aload_n 3, 1) := by decide +kernel
theorem dX10_write_61 : decode cX10_write 61 = .ok (.iload 5, 2) := by decide +kernel
theorem dX10_write_63 : decode cX10_write 63 = .ok (.aload_n 0, 1) := by decide +kernel
theorem dX10_write_64 : decode cX10_write 64 = .ok (.getfield 58, 3) := by decide +kernel
theorem dX10_write_67 : decode cX10_write 67 = .ok (.iload_n 1, 1) := by decide +kernel
theorem dX10_write_68 : decode cX10_write 68 = .ok (.iload 5, 2) := by decide +kernel
theorem dX10_write_70 : decode cX10_write 70 = .ok (.invokevirtual 276, 3) := by decide +kernel
theorem dX10_write_73 : decode cX10_write 73 = .ok (.invokevirtual 255, 3) := by decide +kernel
theorem dX10_write_76 : decode cX10_write 76 = .ok (.iinc 5 1, 3) := by decide +kernel
theorem dX10_write_79 : decode cX10_write 79 = .ok (.goto (-26), 3) := by decide +kernel
theorem dX10_write_82 : decode cX10_write 82 = .ok (.iload 4, 2) := by decide +kernel
theorem dX10_write_84 : decode cX10_write 84 = .ok (.ireturn, 1) := by decide +kernel
theorem dX10_count_0 : decode cX10_count 0 = .ok (.iload_n 1, 1) := by decide +kernel
theorem dX10_count_1 : decode cX10_count 1 = .ok (.tableswitch 121 0 8 #[51, 59, 67, 75, 83, 91, 100, 108, 116], 51) := by decide +kernel
theorem dX10_count_52 : decode cX10_count 52 = .ok (.aload_n 0, 1) := by decide +kernel
theorem dX10_count_53 : decode cX10_count 53 = .ok (.getfield 18, 3) := by decide +kernel
theorem dX10_count_56 : decode cX10_count 56 = .ok (.getfield 128, 3) := by decide +kernel
theorem dX10_count_59 : decode cX10_count 59 = .ok (.ireturn, 1) := by decide +kernel
theorem dX10_count_60 : decode cX10_count 60 = .ok (.aload_n 0, 1) := by decide +kernel
theorem dX10_count_61 : decode cX10_count 61 = .ok (.getfield 25, 3) := by decide +kernel
theorem dX10_count_64 : decode cX10_count 64 = .ok (.getfield 128, 3) := by decide +kernel
theorem dX10_count_67 : decode cX10_count 67 = .ok (.ireturn, 1) := by decide +kernel
theorem dX10_count_68 : decode cX10_count 68 = .ok (.aload_n 0, 1) := by decide +kernel
theorem dX10_count_69 : decode cX10_count 69 = .ok (.getfield 18, 3) := by decide +kernel
theorem dX10_count_72 : decode cX10_count 72 = .ok (.getfield 119, 3) := by decide +kernel
theorem dX10_count_75 : decode cX10_count 75 = .ok (.ireturn, 1) := by decide +kernel
theorem dX10_count_76 : decode cX10_count 76 = .ok (.aload_n 0, 1) := by decide +kernel
theorem dX10_count_77 : decode cX10_count 77 = .ok (.getfield 25, 3) := by decide +kernel
theorem dX10_count_80 : decode cX10_count 80 = .ok (.getfield 119, 3) := by decide +kernel
theorem dX10_count_83 : decode cX10_count 83 = .ok (.ireturn, 1) := by decide +kernel
theorem dX10_count_84 : decode cX10_count 84 = .ok (.aload_n 0, 1) := by decide +kernel
theorem dX10_count_85 : decode cX10_count 85 = .ok (.getfield 31, 3) := by decide +kernel
theorem dX10_count_88 : decode cX10_count 88 = .ok (.getfield 145, 3) := by decide +kernel
theorem dX10_count_91 : decode cX10_count 91 = .ok (.ireturn, 1) := by decide +kernel
theorem dX10_count_92 : decode cX10_count 92 = .ok (.aload_n 0, 1) := by decide +kernel
theorem dX10_count_93 : decode cX10_count 93 = .ok (.getfield 58, 3) := by decide +kernel
theorem dX10_count_96 : decode cX10_count 96 = .ok (.iconst 2, 1) := by decide +kernel
theorem dX10_count_97 : decode cX10_count 97 = .ok (.invokevirtual 279, 3) := by decide +kernel
theorem dX10_count_100 : decode cX10_count 100 = .ok (.ireturn, 1) := by decide +kernel
theorem dX10_count_101 : decode cX10_count 101 = .ok (.aload_n 0, 1) := by decide +kernel
theorem dX10_count_102 : decode cX10_count 102 = .ok (.getfield 58, 3) := by decide +kernel
theorem dX10_count_105 : decode cX10_count 105 = .ok (.invokevirtual 282, 3) := by decide +kernel
theorem dX10_count_108 : decode cX10_count 108 = .ok (.ireturn, 1) := by decide +kernel
theorem dX10_count_109 : decode cX10_count 109 = .ok (.aload_n 0, 1) := by decide +kernel
theorem dX10_count_110 : decode cX10_count 110 = .ok (.getfield 78, 3) := by decide +kernel
theorem dX10_count_113 : decode cX10_count 113 = .ok (.getfield 206, 3) := by decide +kernel
theorem dX10_count_116 : decode cX10_count 116 = .ok (.ireturn, 1) := by decide +kernel
theorem dX10_count_117 : decode cX10_count 117 = .ok (.aload_n 0, 1) := by decide +kernel
theorem dX10_count_118 : decode cX10_count 118 = .ok (.getfield 96, 3) := by decide +kernel
theorem dX10_count_121 : decode cX10_count 121 = .ok (.ireturn, 1) := by decide +kernel
theorem dX10_count_122 : decode cX10_count 122 = .ok (.bipush (-2), 2) := by decide +kernel
theorem dX10_count_124 : decode cX10_count 124 = .ok (.ireturn, 1) := by decide +kernel
theorem dX10_digest_0 : decode cX10_digest 0 = .ok (.aload_n 0, 1) := by decide +kernel
theorem dX10_digest_1 : decode cX10_digest 1 = .ok (.ldc2_w 285, 3) := by decide +kernel
theorem dX10_digest_4 : decode cX10_digest 4 = .ok (.invokevirtual 287, 3) := by decide +kernel
theorem dX10_digest_7 : decode cX10_digest 7 = .ok (.lstore_n 1, 1) := by decide +kernel
theorem dX10_digest_8 : decode cX10_digest 8 = .ok (.aload_n 0, 1) := by decide +kernel
theorem dX10_digest_9 : decode cX10_digest 9 = .ok (.getfield 85, 3) := by decide +kernel
theorem dX10_digest_12 : decode cX10_digest 12 = .ok (.iconst 5, 1) := by decide +kernel
theorem dX10_digest_13 : decode cX10_digest 13 = .ok (.invokevirtual 233, 3) := by decide +kernel
theorem dX10_digest_16 : decode cX10_digest 16 = .ok (.iconst 0, 1) := by decide +kernel
theorem dX10_digest_17 : decode cX10_digest 17 = .ok (.istore_n 3, 1) := by decide +kernel
theorem dX10_digest_18 : decode cX10_digest 18 = .ok (.iload_n 3, 1) := by decide +kernel
theorem dX10_digest_19 : decode cX10_digest 19 = .ok (.aload_n 0, 1) := by decide +kernel
theorem dX10_digest_20 : decode cX10_digest 20 = .ok (.getfield 25, 3) := by decide +kernel
theorem dX10_digest_23 : decode cX10_digest 23 = .ok (.getfield 128, 3) := by decide +kernel
theorem dX10_digest_26 : decode cX10_digest 26 = .ok (.if_icmp .ge 23, 3) := by decide +kernel
theorem dX10_digest_29 : decode cX10_digest 29 = .ok (.aload_n 0, 1) := by decide +kernel
theorem dX10_digest_30 : decode cX10_digest 30 = .ok (.lload_n 1, 1) := by decide +kernel
theorem dX10_digest_31 : decode cX10_digest 31 = .ok (.iload_n 3, 1) := by decide +kernel
theorem dX10_digest_32 : decode cX10_digest 32 = .ok (.invokevirtual 291, 3) := by decide +kernel
theorem dX10_digest_35 : decode cX10_digest 35 = .ok (.lstore_n 1, 1) := by decide +kernel
theorem dX10_digest_36 : decode cX10_digest 36 = .ok (.aload_n 0, 1) := by decide +kernel
theorem dX10_digest_37 : decode cX10_digest 37 = .ok (.lload_n 1, 1) := by decide +kernel
theorem dX10_digest_38 : decode cX10_digest 38 = .ok (.iload_n 3, 1) := by decide +kernel
theorem dX10_digest_39 : decode cX10_digest 39 = .ok (.invokevirtual 295, 3) := by decide +kernel
theorem dX10_digest_42 : decode cX10_digest 42 = .ok (.lstore_n 1, 1) := by decide +kernel
theorem dX10_digest_43 : decode cX10_digest 43 = .ok (.iinc 3 1, 3) := by decide +kernel
theorem dX10_digest_46 : decode cX10_digest 46 = .ok (.goto (-28), 3) := by decide +kernel
theorem dX10_digest_49 : decode cX10_digest 49 = .ok (.aload_n 0, 1) := by decide +kernel
theorem dX10_digest_50 : decode cX10_digest 50 = .ok (.lload_n 1, 1) := by decide +kernel
theorem dX10_digest_51 : decode cX10_digest 51 = .ok (.invokevirtual 298, 3) := by decide +kernel
theorem dX10_digest_54 : decode cX10_digest 54 = .ok (.lreturn, 1) := by decide +kernel
theorem dX10_digestOfTexts_0 : decode cX10_digestOfTexts 0 = .ok (.lload_n 1, 1) := by decide +kernel
theorem dX10_digestOfTexts_1 : decode cX10_digestOfTexts 1 = .ok (.lstore_n 3, 1) := by decide +kernel
theorem dX10_digestOfTexts_2 : decode cX10_digestOfTexts 2 = .ok (.iconst 0, 1) := by decide +kernel
theorem dX10_digestOfTexts_3 : decode cX10_digestOfTexts 3 = .ok (.istore 5, 2) := by decide +kernel
theorem dX10_digestOfTexts_5 : decode cX10_digestOfTexts 5 = .ok (.iload 5, 2) := by decide +kernel
theorem dX10_digestOfTexts_7 : decode cX10_digestOfTexts 7 = .ok (.bipush 8, 2) := by decide +kernel
theorem dX10_digestOfTexts_9 : decode cX10_digestOfTexts 9 = .ok (.if_icmp .ge 21, 3) := by decide +kernel
theorem dX10_digestOfTexts_12 : decode cX10_digestOfTexts 12 = .ok (.lload_n 3, 1) := by decide +kernel
theorem dX10_digestOfTexts_13 : decode cX10_digestOfTexts 13 = .ok (.aload_n 0, 1) := by decide +kernel
theorem dX10_digestOfTexts_14 : decode cX10_digestOfTexts 14 = .ok (.iload 5, 2) := by decide +kernel
theorem dX10_digestOfTexts_16 : decode cX10_digestOfTexts 16 = .ok (.invokevirtual 301, 3) := by decide +kernel
theorem dX10_digestOfTexts_19 : decode cX10_digestOfTexts 19 = .ok (.i2l, 1) := by decide +kernel
theorem dX10_digestOfTexts_20 : decode cX10_digestOfTexts 20 = .ok (.invokestatic 304, 3) := by decide +kernel
theorem dX10_digestOfTexts_23 : decode cX10_digestOfTexts 23 = .ok (.lstore_n 3, 1) := by decide +kernel
theorem dX10_digestOfTexts_24 : decode cX10_digestOfTexts 24 = .ok (.iinc 5 1, 3) := by decide +kernel
theorem dX10_digestOfTexts_27 : decode cX10_digestOfTexts 27 = .ok (.goto (-22), 3) := by decide +kernel
theorem dX10_digestOfTexts_30 : decode cX10_digestOfTexts 30 = .ok (.lload_n 3, 1) := by decide +kernel
theorem dX10_digestOfTexts_31 : decode cX10_digestOfTexts 31 = .ok (.aload_n 0, 1) := by decide +kernel
theorem dX10_digestOfTexts_32 : decode cX10_digestOfTexts 32 = .ok (.getfield 18, 3) := by decide +kernel
theorem dX10_digestOfTexts_35 : decode cX10_digestOfTexts 35 = .ok (.getfield 125, 3) := by decide +kernel
theorem dX10_digestOfTexts_38 : decode cX10_digestOfTexts 38 = .ok (.i2l, 1) := by decide +kernel
theorem dX10_digestOfTexts_39 : decode cX10_digestOfTexts 39 = .ok (.invokestatic 304, 3) := by decide +kernel
theorem dX10_digestOfTexts_42 : decode cX10_digestOfTexts 42 = .ok (.lstore_n 3, 1) := by decide +kernel
theorem dX10_digestOfTexts_43 : decode cX10_digestOfTexts 43 = .ok (.lload_n 3, 1) := by decide +kernel
theorem dX10_digestOfTexts_44 : decode cX10_digestOfTexts 44 = .ok (.aload_n 0, 1) := by decide +kernel
theorem dX10_digestOfTexts_45 : decode cX10_digestOfTexts 45 = .ok (.getfield 25, 3) := by decide +kernel
theorem dX10_digestOfTexts_48 : decode cX10_digestOfTexts 48 = .ok (.getfield 125, 3) := by decide +kernel
theorem dX10_digestOfTexts_51 : decode cX10_digestOfTexts 51 = .ok (.i2l, 1) := by decide +kernel
theorem dX10_digestOfTexts_52 : decode cX10_digestOfTexts 52 = .ok (.invokestatic 304, 3) := by decide +kernel
theorem dX10_digestOfTexts_55 : decode cX10_digestOfTexts 55 = .ok (.lstore_n 3, 1) := by decide +kernel
theorem dX10_digestOfTexts_56 : decode cX10_digestOfTexts 56 = .ok (.iconst 0, 1) := by decide +kernel
theorem dX10_digestOfTexts_57 : decode cX10_digestOfTexts 57 = .ok (.istore 5, 2) := by decide +kernel
theorem dX10_digestOfTexts_59 : decode cX10_digestOfTexts 59 = .ok (.iload 5, 2) := by decide +kernel
theorem dX10_digestOfTexts_61 : decode cX10_digestOfTexts 61 = .ok (.aload_n 0, 1) := by decide +kernel
theorem dX10_digestOfTexts_62 : decode cX10_digestOfTexts 62 = .ok (.getfield 18, 3) := by decide +kernel
theorem dX10_digestOfTexts_65 : decode cX10_digestOfTexts 65 = .ok (.getfield 128, 3) := by decide +kernel
theorem dX10_digestOfTexts_68 : decode cX10_digestOfTexts 68 = .ok (.if_icmp .ge 41, 3) := by decide +kernel
theorem dX10_digestOfTexts_71 : decode cX10_digestOfTexts 71 = .ok (.iconst 0, 1) := by decide +kernel
theorem dX10_digestOfTexts_72 : decode cX10_digestOfTexts 72 = .ok (.istore 6, 2) := by decide +kernel
theorem dX10_digestOfTexts_74 : decode cX10_digestOfTexts 74 = .ok (.iload 6, 2) := by decide +kernel
theorem dX10_digestOfTexts_76 : decode cX10_digestOfTexts 76 = .ok (.iconst 4, 1) := by decide +kernel
theorem dX10_digestOfTexts_77 : decode cX10_digestOfTexts 77 = .ok (.if_icmp .ge 26, 3) := by decide +kernel
theorem dX10_digestOfTexts_80 : decode cX10_digestOfTexts 80 = .ok (.lload_n 3, 1) := by decide +kernel
theorem dX10_digestOfTexts_81 : decode cX10_digestOfTexts 81 = .ok (.aload_n 0, 1) := by decide +kernel
theorem dX10_digestOfTexts_82 : decode cX10_digestOfTexts 82 = .ok (.getfield 18, 3) := by decide +kernel
theorem dX10_digestOfTexts_85 : decode cX10_digestOfTexts 85 = .ok (.iload 5, 2) := by decide +kernel
theorem dX10_digestOfTexts_87 : decode cX10_digestOfTexts 87 = .ok (.iload 6, 2) := by decide +kernel
theorem dX10_digestOfTexts_89 : decode cX10_digestOfTexts 89 = .ok (.invokevirtual 131, 3) := by decide +kernel
theorem dX10_digestOfTexts_92 : decode cX10_digestOfTexts 92 = .ok (.i2l, 1) := by decide +kernel
theorem dX10_digestOfTexts_93 : decode cX10_digestOfTexts 93 = .ok (.invokestatic 304, 3) := by decide +kernel
theorem dX10_digestOfTexts_96 : decode cX10_digestOfTexts 96 = .ok (.lstore_n 3, 1) := by decide +kernel
theorem dX10_digestOfTexts_97 : decode cX10_digestOfTexts 97 = .ok (.iinc 6 1, 3) := by decide +kernel
theorem dX10_digestOfTexts_100 : decode cX10_digestOfTexts 100 = .ok (.goto (-26), 3) := by decide +kernel
theorem dX10_digestOfTexts_103 : decode cX10_digestOfTexts 103 = .ok (.iinc 5 1, 3) := by decide +kernel
theorem dX10_digestOfTexts_106 : decode cX10_digestOfTexts 106 = .ok (.goto (-47), 3) := by decide +kernel
theorem dX10_digestOfTexts_109 : decode cX10_digestOfTexts 109 = .ok (.iconst 0, 1) := by decide +kernel
theorem dX10_digestOfTexts_110 : decode cX10_digestOfTexts 110 = .ok (.istore 5, 2) := by decide +kernel
theorem dX10_digestOfTexts_112 : decode cX10_digestOfTexts 112 = .ok (.iload 5, 2) := by decide +kernel
theorem dX10_digestOfTexts_114 : decode cX10_digestOfTexts 114 = .ok (.bipush 8, 2) := by decide +kernel
theorem dX10_digestOfTexts_116 : decode cX10_digestOfTexts 116 = .ok (.if_icmp .ge 47, 3) := by decide +kernel
theorem dX10_digestOfTexts_119 : decode cX10_digestOfTexts 119 = .ok (.lload_n 3, 1) := by decide +kernel
theorem dX10_digestOfTexts_120 : decode cX10_digestOfTexts 120 = .ok (.aload_n 0, 1) := by decide +kernel
theorem dX10_digestOfTexts_121 : decode cX10_digestOfTexts 121 = .ok (.getfield 43, 3) := by decide +kernel
theorem dX10_digestOfTexts_124 : decode cX10_digestOfTexts 124 = .ok (.getfield 47, 3) := by decide +kernel
theorem dX10_digestOfTexts_127 : decode cX10_digestOfTexts 127 = .ok (.iconst 0, 1) := by decide +kernel
theorem dX10_digestOfTexts_128 : decode cX10_digestOfTexts 128 = .ok (.iload 5, 2) := by decide +kernel
theorem dX10_digestOfTexts_130 : decode cX10_digestOfTexts 130 = .ok (.invokevirtual 168, 3) := by decide +kernel
theorem dX10_digestOfTexts_133 : decode cX10_digestOfTexts 133 = .ok (.i2l, 1) := by decide +kernel
theorem dX10_digestOfTexts_134 : decode cX10_digestOfTexts 134 = .ok (.invokestatic 304, 3) := by decide +kernel
theorem dX10_digestOfTexts_137 : decode cX10_digestOfTexts 137 = .ok (.lstore_n 3, 1) := by decide +kernel
theorem dX10_digestOfTexts_138 : decode cX10_digestOfTexts 138 = .ok (.lload_n 3, 1) := by decide +kernel
theorem dX10_digestOfTexts_139 : decode cX10_digestOfTexts 139 = .ok (.aload_n 0, 1) := by decide +kernel
theorem dX10_digestOfTexts_140 : decode cX10_digestOfTexts 140 = .ok (.getfield 43, 3) := by decide +kernel
theorem dX10_digestOfTexts_143 : decode cX10_digestOfTexts 143 = .ok (.getfield 47, 3) := by decide +kernel
theorem dX10_digestOfTexts_146 : decode cX10_digestOfTexts 146 = .ok (.iload 5, 2) := by decide +kernel
theorem dX10_digestOfTexts_148 : decode cX10_digestOfTexts 148 = .ok (.iconst 3, 1) := by decide +kernel
theorem dX10_digestOfTexts_149 : decode cX10_digestOfTexts 149 = .ok (.invokevirtual 168, 3) := by decide +kernel
theorem dX10_digestOfTexts_152 : decode cX10_digestOfTexts 152 = .ok (.i2l, 1) := by decide +kernel
theorem dX10_digestOfTexts_153 : decode cX10_digestOfTexts 153 = .ok (.invokestatic 304, 3) := by decide +kernel
theorem dX10_digestOfTexts_156 : decode cX10_digestOfTexts 156 = .ok (.lstore_n 3, 1) := by decide +kernel
theorem dX10_digestOfTexts_157 : decode cX10_digestOfTexts 157 = .ok (.iinc 5 1, 3) := by decide +kernel
theorem dX10_digestOfTexts_160 : decode cX10_digestOfTexts 160 = .ok (.goto (-48), 3) := by decide +kernel
theorem dX10_digestOfTexts_163 : decode cX10_digestOfTexts 163 = .ok (.lload_n 3, 1) := by decide +kernel
theorem dX10_digestOfTexts_164 : decode cX10_digestOfTexts 164 = .ok (.lreturn, 1) := by decide +kernel
theorem dX10_digestOfHours_0 : decode cX10_digestOfHours 0 = .ok (.lload_n 1, 1) := by decide +kernel
theorem dX10_digestOfHours_1 : decode cX10_digestOfHours 1 = .ok (.lstore 4, 2) := by decide +kernel
theorem dX10_digestOfHours_3 : decode cX10_digestOfHours 3 = .ok (.iconst 0, 1) := by decide +kernel
theorem dX10_digestOfHours_4 : decode cX10_digestOfHours 4 = .ok (.istore 6, 2) := by decide +kernel
theorem dX10_digestOfHours_6 : decode cX10_digestOfHours 6 = .ok (.iload 6, 2) := by decide +kernel
theorem dX10_digestOfHours_8 : decode cX10_digestOfHours 8 = .ok (.iconst 5, 1) := by decide +kernel
theorem dX10_digestOfHours_9 : decode cX10_digestOfHours 9 = .ok (.if_icmp .ge 27, 3) := by decide +kernel
theorem dX10_digestOfHours_12 : decode cX10_digestOfHours 12 = .ok (.lload 4, 2) := by decide +kernel
theorem dX10_digestOfHours_14 : decode cX10_digestOfHours 14 = .ok (.aload_n 0, 1) := by decide +kernel
theorem dX10_digestOfHours_15 : decode cX10_digestOfHours 15 = .ok (.getfield 43, 3) := by decide +kernel
theorem dX10_digestOfHours_18 : decode cX10_digestOfHours 18 = .ok (.iload_n 3, 1) := by decide +kernel
theorem dX10_digestOfHours_19 : decode cX10_digestOfHours 19 = .ok (.iload 6, 2) := by decide +kernel
theorem dX10_digestOfHours_21 : decode cX10_digestOfHours 21 = .ok (.invokevirtual 139, 3) := by decide +kernel
theorem dX10_digestOfHours_24 : decode cX10_digestOfHours 24 = .ok (.i2l, 1) := by decide +kernel
theorem dX10_digestOfHours_25 : decode cX10_digestOfHours 25 = .ok (.invokestatic 304, 3) := by decide +kernel
theorem dX10_digestOfHours_28 : decode cX10_digestOfHours 28 = .ok (.lstore 4, 2) := by decide +kernel
theorem dX10_digestOfHours_30 : decode cX10_digestOfHours 30 = .ok (.iinc 6 1, 3) := by decide +kernel
theorem dX10_digestOfHours_33 : decode cX10_digestOfHours 33 = .ok (.goto (-27), 3) := by decide +kernel
theorem dX10_digestOfHours_36 : decode cX10_digestOfHours 36 = .ok (.aload_n 0, 1) := by decide +kernel
theorem dX10_digestOfHours_37 : decode cX10_digestOfHours 37 = .ok (.lload 4, 2) := by decide +kernel
theorem dX10_digestOfHours_39 : decode cX10_digestOfHours 39 = .ok (.iconst 0, 1) := by decide +kernel
theorem dX10_digestOfHours_40 : decode cX10_digestOfHours 40 = .ok (.iload_n 3, 1) := by decide +kernel
theorem dX10_digestOfHours_41 : decode cX10_digestOfHours 41 = .ok (.invokevirtual 308, 3) := by decide +kernel
theorem dX10_digestOfHours_44 : decode cX10_digestOfHours 44 = .ok (.lstore 4, 2) := by decide +kernel
theorem dX10_digestOfHours_46 : decode cX10_digestOfHours 46 = .ok (.aload_n 0, 1) := by decide +kernel
theorem dX10_digestOfHours_47 : decode cX10_digestOfHours 47 = .ok (.lload 4, 2) := by decide +kernel
theorem dX10_digestOfHours_49 : decode cX10_digestOfHours 49 = .ok (.iconst 5, 1) := by decide +kernel
theorem dX10_digestOfHours_50 : decode cX10_digestOfHours 50 = .ok (.iload_n 3, 1) := by decide +kernel
theorem dX10_digestOfHours_51 : decode cX10_digestOfHours 51 = .ok (.invokevirtual 308, 3) := by decide +kernel
theorem dX10_digestOfHours_54 : decode cX10_digestOfHours 54 = .ok (.lstore 4, 2) := by decide +kernel
theorem dX10_digestOfHours_56 : decode cX10_digestOfHours 56 = .ok (.aload_n 0, 1) := by decide +kernel
theorem dX10_digestOfHours_57 : decode cX10_digestOfHours 57 = .ok (.lload 4, 2) := by decide +kernel
theorem dX10_digestOfHours_59 : decode cX10_digestOfHours 59 = .ok (.bipush 15, 2) := by decide +kernel
theorem dX10_digestOfHours_61 : decode cX10_digestOfHours 61 = .ok (.iload_n 3, 1) := by decide +kernel
theorem dX10_digestOfHours_62 : decode cX10_digestOfHours 62 = .ok (.invokevirtual 308, 3) := by decide +kernel
theorem dX10_digestOfHours_65 : decode cX10_digestOfHours 65 = .ok (.lstore 4, 2) := by decide +kernel
theorem dX10_digestOfHours_67 : decode cX10_digestOfHours 67 = .ok (.aload_n 0, 1) := by decide +kernel
theorem dX10_digestOfHours_68 : decode cX10_digestOfHours 68 = .ok (.lload 4, 2) := by decide +kernel
theorem dX10_digestOfHours_70 : decode cX10_digestOfHours 70 = .ok (.bipush 39, 2) := by decide +kernel
theorem dX10_digestOfHours_72 : decode cX10_digestOfHours 72 = .ok (.iload_n 3, 1) := by decide +kernel
theorem dX10_digestOfHours_73 : decode cX10_digestOfHours 73 = .ok (.invokevirtual 308, 3) := by decide +kernel
theorem dX10_digestOfHours_76 : decode cX10_digestOfHours 76 = .ok (.lstore 4, 2) := by decide +kernel
theorem dX10_digestOfHours_78 : decode cX10_digestOfHours 78 = .ok (.lload 4, 2) := by decide +kernel
theorem dX10_digestOfHours_80 : decode cX10_digestOfHours 80 = .ok (.aload_n 0, 1) := by decide +kernel
theorem dX10_digestOfHours_81 : decode cX10_digestOfHours 81 = .ok (.getfield 58, 3) := by decide +kernel
theorem dX10_digestOfHours_84 : decode cX10_digestOfHours 84 = .ok (.getfield 165, 3) := by decide +kernel
theorem dX10_digestOfHours_87 : decode cX10_digestOfHours 87 = .ok (.iload_n 3, 1) := by decide +kernel
theorem dX10_digestOfHours_88 : decode cX10_digestOfHours 88 = .ok (.iaload, 1) := by decide +kernel
theorem dX10_digestOfHours_89 : decode cX10_digestOfHours 89 = .ok (.i2l, 1) := by decide +kernel
theorem dX10_digestOfHours_90 : decode cX10_digestOfHours 90 = .ok (.invokestatic 304, 3) := by decide +kernel
theorem dX10_digestOfHours_93 : decode cX10_digestOfHours 93 = .ok (.lreturn, 1) := by decide +kernel
theorem dX10_digestOfHour_0 : decode cX10_digestOfHour 0 = .ok (.lload_n 1, 1) := by decide +kernel
theorem dX10_digestOfHour_1 : decode cX10_digestOfHour 1 = .ok (.lstore 5, 2) := by decide +kernel
theorem dX10_digestOfHour_3 : decode cX10_digestOfHour 3 = .ok (.iconst 0, 1) := by decide +kernel
theorem dX10_digestOfHour_4 : decode cX10_digestOfHour 4 = .ok (.istore 7, 2) := by decide +kernel
theorem dX10_digestOfHour_6 : decode cX10_digestOfHour 6 = .ok (.iload 7, 2) := by decide +kernel
theorem dX10_digestOfHour_8 : decode cX10_digestOfHour 8 = .ok (.iconst 4, 1) := by decide +kernel
theorem dX10_digestOfHour_9 : decode cX10_digestOfHour 9 = .ok (.if_icmp .ge 26, 3) := by decide +kernel
theorem dX10_digestOfHour_12 : decode cX10_digestOfHour 12 = .ok (.lload 5, 2) := by decide +kernel
theorem dX10_digestOfHour_14 : decode cX10_digestOfHour 14 = .ok (.aload_n 0, 1) := by decide +kernel
theorem dX10_digestOfHour_15 : decode cX10_digestOfHour 15 = .ok (.iload_n 3, 1) := by decide +kernel
theorem dX10_digestOfHour_16 : decode cX10_digestOfHour 16 = .ok (.iload 4, 2) := by decide +kernel
theorem dX10_digestOfHour_18 : decode cX10_digestOfHour 18 = .ok (.iload 7, 2) := by decide +kernel
theorem dX10_digestOfHour_20 : decode cX10_digestOfHour 20 = .ok (.invokevirtual 161, 3) := by decide +kernel
theorem dX10_digestOfHour_23 : decode cX10_digestOfHour 23 = .ok (.i2l, 1) := by decide +kernel
theorem dX10_digestOfHour_24 : decode cX10_digestOfHour 24 = .ok (.invokestatic 304, 3) := by decide +kernel
theorem dX10_digestOfHour_27 : decode cX10_digestOfHour 27 = .ok (.lstore 5, 2) := by decide +kernel
theorem dX10_digestOfHour_29 : decode cX10_digestOfHour 29 = .ok (.iinc 7 1, 3) := by decide +kernel
theorem dX10_digestOfHour_32 : decode cX10_digestOfHour 32 = .ok (.goto (-26), 3) := by decide +kernel
theorem dX10_digestOfHour_35 : decode cX10_digestOfHour 35 = .ok (.lload 5, 2) := by decide +kernel
theorem dX10_digestOfHour_37 : decode cX10_digestOfHour 37 = .ok (.lreturn, 1) := by decide +kernel
theorem dX10_digestOfTrials_0 : decode cX10_digestOfTrials 0 = .ok (.lload_n 1, 1) := by decide +kernel
theorem dX10_digestOfTrials_1 : decode cX10_digestOfTrials 1 = .ok (.aload_n 0, 1) := by decide +kernel
theorem dX10_digestOfTrials_2 : decode cX10_digestOfTrials 2 = .ok (.getfield 71, 3) := by decide +kernel
theorem dX10_digestOfTrials_5 : decode cX10_digestOfTrials 5 = .ok (.iload_n 3, 1) := by decide +kernel
theorem dX10_digestOfTrials_6 : decode cX10_digestOfTrials 6 = .ok (.invokevirtual 184, 3) := by decide +kernel
theorem dX10_digestOfTrials_9 : decode cX10_digestOfTrials 9 = .ok (.i2l, 1) := by decide +kernel
theorem dX10_digestOfTrials_10 : decode cX10_digestOfTrials 10 = .ok (.invokestatic 304, 3) := by decide +kernel
theorem dX10_digestOfTrials_13 : decode cX10_digestOfTrials 13 = .ok (.lstore 4, 2) := by decide +kernel
theorem dX10_digestOfTrials_15 : decode cX10_digestOfTrials 15 = .ok (.aload_n 0, 1) := by decide +kernel
theorem dX10_digestOfTrials_16 : decode cX10_digestOfTrials 16 = .ok (.getfield 71, 3) := by decide +kernel
theorem dX10_digestOfTrials_19 : decode cX10_digestOfTrials 19 = .ok (.iload_n 3, 1) := by decide +kernel
theorem dX10_digestOfTrials_20 : decode cX10_digestOfTrials 20 = .ok (.invokevirtual 199, 3) := by decide +kernel
theorem dX10_digestOfTrials_23 : decode cX10_digestOfTrials 23 = .ok (.lload 4, 2) := by decide +kernel
theorem dX10_digestOfTrials_25 : decode cX10_digestOfTrials 25 = .ok (.aload_n 0, 1) := by decide +kernel
theorem dX10_digestOfTrials_26 : decode cX10_digestOfTrials 26 = .ok (.getfield 71, 3) := by decide +kernel
theorem dX10_digestOfTrials_29 : decode cX10_digestOfTrials 29 = .ok (.getfield 193, 3) := by decide +kernel
theorem dX10_digestOfTrials_32 : decode cX10_digestOfTrials 32 = .ok (.i2l, 1) := by decide +kernel
theorem dX10_digestOfTrials_33 : decode cX10_digestOfTrials 33 = .ok (.invokestatic 304, 3) := by decide +kernel
theorem dX10_digestOfTrials_36 : decode cX10_digestOfTrials 36 = .ok (.lstore 4, 2) := by decide +kernel
theorem dX10_digestOfTrials_38 : decode cX10_digestOfTrials 38 = .ok (.lload 4, 2) := by decide +kernel
theorem dX10_digestOfTrials_40 : decode cX10_digestOfTrials 40 = .ok (.aload_n 0, 1) := by decide +kernel
theorem dX10_digestOfTrials_41 : decode cX10_digestOfTrials 41 = .ok (.getfield 71, 3) := by decide +kernel
theorem dX10_digestOfTrials_44 : decode cX10_digestOfTrials 44 = .ok (.getfield 190, 3) := by decide +kernel
theorem dX10_digestOfTrials_47 : decode cX10_digestOfTrials 47 = .ok (.i2l, 1) := by decide +kernel
theorem dX10_digestOfTrials_48 : decode cX10_digestOfTrials 48 = .ok (.invokestatic 304, 3) := by decide +kernel
theorem dX10_digestOfTrials_51 : decode cX10_digestOfTrials 51 = .ok (.lstore 4, 2) := by decide +kernel
theorem dX10_digestOfTrials_53 : decode cX10_digestOfTrials 53 = .ok (.lload 4, 2) := by decide +kernel
theorem dX10_digestOfTrials_55 : decode cX10_digestOfTrials 55 = .ok (.aload_n 0, 1) := by decide +kernel
theorem dX10_digestOfTrials_56 : decode cX10_digestOfTrials 56 = .ok (.getfield 78, 3) := by decide +kernel
theorem dX10_digestOfTrials_59 : decode cX10_digestOfTrials 59 = .ok (.iload_n 3, 1) := by decide +kernel
theorem dX10_digestOfTrials_60 : decode cX10_digestOfTrials 60 = .ok (.invokevirtual 213, 3) := by decide +kernel
theorem dX10_digestOfTrials_63 : decode cX10_digestOfTrials 63 = .ok (.i2l, 1) := by decide +kernel
theorem dX10_digestOfTrials_64 : decode cX10_digestOfTrials 64 = .ok (.invokestatic 304, 3) := by decide +kernel
theorem dX10_digestOfTrials_67 : decode cX10_digestOfTrials 67 = .ok (.lstore 4, 2) := by decide +kernel
theorem dX10_digestOfTrials_69 : decode cX10_digestOfTrials 69 = .ok (.aload_n 0, 1) := by decide +kernel
theorem dX10_digestOfTrials_70 : decode cX10_digestOfTrials 70 = .ok (.getfield 78, 3) := by decide +kernel
theorem dX10_digestOfTrials_73 : decode cX10_digestOfTrials 73 = .ok (.invokevirtual 228, 3) := by decide +kernel
theorem dX10_digestOfTrials_76 : decode cX10_digestOfTrials 76 = .ok (.istore 6, 2) := by decide +kernel
theorem dX10_digestOfTrials_78 : decode cX10_digestOfTrials 78 = .ok (.aload_n 0, 1) := by decide +kernel
theorem dX10_digestOfTrials_79 : decode cX10_digestOfTrials 79 = .ok (.getfield 78, 3) := by decide +kernel
theorem dX10_digestOfTrials_82 : decode cX10_digestOfTrials 82 = .ok (.iload_n 3, 1) := by decide +kernel
theorem dX10_digestOfTrials_83 : decode cX10_digestOfTrials 83 = .ok (.invokevirtual 216, 3) := by decide +kernel
theorem dX10_digestOfTrials_86 : decode cX10_digestOfTrials 86 = .ok (.lload 4, 2) := by decide +kernel
theorem dX10_digestOfTrials_88 : decode cX10_digestOfTrials 88 = .ok (.aload_n 0, 1) := by decide +kernel
theorem dX10_digestOfTrials_89 : decode cX10_digestOfTrials 89 = .ok (.getfield 78, 3) := by decide +kernel
theorem dX10_digestOfTrials_92 : decode cX10_digestOfTrials 92 = .ok (.getfield 219, 3) := by decide +kernel
theorem dX10_digestOfTrials_95 : decode cX10_digestOfTrials 95 = .ok (.i2l, 1) := by decide +kernel
theorem dX10_digestOfTrials_96 : decode cX10_digestOfTrials 96 = .ok (.invokestatic 304, 3) := by decide +kernel
theorem dX10_digestOfTrials_99 : decode cX10_digestOfTrials 99 = .ok (.lstore 4, 2) := by decide +kernel
theorem dX10_digestOfTrials_101 : decode cX10_digestOfTrials 101 = .ok (.lload 4, 2) := by decide +kernel
theorem dX10_digestOfTrials_103 : decode cX10_digestOfTrials 103 = .ok (.aload_n 0, 1) := by decide +kernel
theorem dX10_digestOfTrials_104 : decode cX10_digestOfTrials 104 = .ok (.getfield 78, 3) := by decide +kernel
theorem dX10_digestOfTrials_107 : decode cX10_digestOfTrials 107 = .ok (.getfield 222, 3) := by decide +kernel
theorem dX10_digestOfTrials_110 : decode cX10_digestOfTrials 110 = .ok (.i2l, 1) := by decide +kernel
theorem dX10_digestOfTrials_111 : decode cX10_digestOfTrials 111 = .ok (.invokestatic 304, 3) := by decide +kernel
theorem dX10_digestOfTrials_114 : decode cX10_digestOfTrials 114 = .ok (.lstore 4, 2) := by decide +kernel
theorem dX10_digestOfTrials_116 : decode cX10_digestOfTrials 116 = .ok (.lload 4, 2) := by decide +kernel
theorem dX10_digestOfTrials_118 : decode cX10_digestOfTrials 118 = .ok (.aload_n 0, 1) := by decide +kernel
theorem dX10_digestOfTrials_119 : decode cX10_digestOfTrials 119 = .ok (.getfield 78, 3) := by decide +kernel
theorem dX10_digestOfTrials_122 : decode cX10_digestOfTrials 122 = .ok (.getfield 225, 3) := by decide +kernel
theorem dX10_digestOfTrials_125 : decode cX10_digestOfTrials 125 = .ok (.i2l, 1) := by decide +kernel
theorem dX10_digestOfTrials_126 : decode cX10_digestOfTrials 126 = .ok (.invokestatic 304, 3) := by decide +kernel
theorem dX10_digestOfTrials_129 : decode cX10_digestOfTrials 129 = .ok (.lstore 4, 2) := by decide +kernel
theorem dX10_digestOfTrials_131 : decode cX10_digestOfTrials 131 = .ok (.lload 4, 2) := by decide +kernel
theorem dX10_digestOfTrials_133 : decode cX10_digestOfTrials 133 = .ok (.iload 6, 2) := by decide +kernel
theorem dX10_digestOfTrials_135 : decode cX10_digestOfTrials 135 = .ok (.i2l, 1) := by decide +kernel
theorem dX10_digestOfTrials_136 : decode cX10_digestOfTrials 136 = .ok (.invokestatic 304, 3) := by decide +kernel
theorem dX10_digestOfTrials_139 : decode cX10_digestOfTrials 139 = .ok (.lstore 4, 2) := by decide +kernel
theorem dX10_digestOfTrials_141 : decode cX10_digestOfTrials 141 = .ok (.aload_n 0, 1) := by decide +kernel
theorem dX10_digestOfTrials_142 : decode cX10_digestOfTrials 142 = .ok (.getfield 85, 3) := by decide +kernel
theorem dX10_digestOfTrials_145 : decode cX10_digestOfTrials 145 = .ok (.iload_n 3, 1) := by decide +kernel
theorem dX10_digestOfTrials_146 : decode cX10_digestOfTrials 146 = .ok (.invokevirtual 236, 3) := by decide +kernel
theorem dX10_digestOfTrials_149 : decode cX10_digestOfTrials 149 = .ok (.lload 4, 2) := by decide +kernel
theorem dX10_digestOfTrials_151 : decode cX10_digestOfTrials 151 = .ok (.aload_n 0, 1) := by decide +kernel
theorem dX10_digestOfTrials_152 : decode cX10_digestOfTrials 152 = .ok (.getfield 85, 3) := by decide +kernel
theorem dX10_digestOfTrials_155 : decode cX10_digestOfTrials 155 = .ok (.getfield 239, 3) := by decide +kernel
theorem dX10_digestOfTrials_158 : decode cX10_digestOfTrials 158 = .ok (.invokestatic 304, 3) := by decide +kernel
theorem dX10_digestOfTrials_161 : decode cX10_digestOfTrials 161 = .ok (.lstore 4, 2) := by decide +kernel
theorem dX10_digestOfTrials_163 : decode cX10_digestOfTrials 163 = .ok (.lload 4, 2) := by decide +kernel
theorem dX10_digestOfTrials_165 : decode cX10_digestOfTrials 165 = .ok (.aload_n 0, 1) := by decide +kernel
theorem dX10_digestOfTrials_166 : decode cX10_digestOfTrials 166 = .ok (.getfield 85, 3) := by decide +kernel
theorem dX10_digestOfTrials_169 : decode cX10_digestOfTrials 169 = .ok (.getfield 243, 3) := by decide +kernel
theorem dX10_digestOfTrials_172 : decode cX10_digestOfTrials 172 = .ok (.invokestatic 304, 3) := by decide +kernel
theorem dX10_digestOfTrials_175 : decode cX10_digestOfTrials 175 = .ok (.lreturn, 1) := by decide +kernel
theorem dX10_digestOfAll_0 : decode cX10_digestOfAll 0 = .ok (.lload_n 1, 1) := by decide +kernel
theorem dX10_digestOfAll_1 : decode cX10_digestOfAll 1 = .ok (.lstore_n 3, 1) := by decide +kernel
theorem dX10_digestOfAll_2 : decode cX10_digestOfAll 2 = .ok (.iconst 2, 1) := by decide +kernel
theorem dX10_digestOfAll_3 : decode cX10_digestOfAll 3 = .ok (.istore 5, 2) := by decide +kernel
theorem dX10_digestOfAll_5 : decode cX10_digestOfAll 5 = .ok (.iload 5, 2) := by decide +kernel
theorem dX10_digestOfAll_7 : decode cX10_digestOfAll 7 = .ok (.iconst 5, 1) := by decide +kernel
theorem dX10_digestOfAll_8 : decode cX10_digestOfAll 8 = .ok (.if_icmp .gt 24, 3) := by decide +kernel
theorem dX10_digestOfAll_11 : decode cX10_digestOfAll 11 = .ok (.lload_n 3, 1) := by decide +kernel
theorem dX10_digestOfAll_12 : decode cX10_digestOfAll 12 = .ok (.aload_n 0, 1) := by decide +kernel
theorem dX10_digestOfAll_13 : decode cX10_digestOfAll 13 = .ok (.getfield 58, 3) := by decide +kernel
theorem dX10_digestOfAll_16 : decode cX10_digestOfAll 16 = .ok (.iload 5, 2) := by decide +kernel
theorem dX10_digestOfAll_18 : decode cX10_digestOfAll 18 = .ok (.invokevirtual 171, 3) := by decide +kernel
theorem dX10_digestOfAll_21 : decode cX10_digestOfAll 21 = .ok (.i2l, 1) := by decide +kernel
theorem dX10_digestOfAll_22 : decode cX10_digestOfAll 22 = .ok (.invokestatic 304, 3) := by decide +kernel
theorem dX10_digestOfAll_25 : decode cX10_digestOfAll 25 = .ok (.lstore_n 3, 1) := by decide +kernel
theorem dX10_digestOfAll_26 : decode cX10_digestOfAll 26 = .ok (.iinc 5 1, 3) := by decide +kernel
theorem dX10_digestOfAll_29 : decode cX10_digestOfAll 29 = .ok (.goto (-24), 3) := by decide +kernel
theorem dX10_digestOfAll_32 : decode cX10_digestOfAll 32 = .ok (.lload_n 3, 1) := by decide +kernel
theorem dX10_digestOfAll_33 : decode cX10_digestOfAll 33 = .ok (.aload_n 0, 1) := by decide +kernel
theorem dX10_digestOfAll_34 : decode cX10_digestOfAll 34 = .ok (.getfield 58, 3) := by decide +kernel
theorem dX10_digestOfAll_37 : decode cX10_digestOfAll 37 = .ok (.getfield 174, 3) := by decide +kernel
theorem dX10_digestOfAll_40 : decode cX10_digestOfAll 40 = .ok (.i2l, 1) := by decide +kernel
theorem dX10_digestOfAll_41 : decode cX10_digestOfAll 41 = .ok (.invokestatic 304, 3) := by decide +kernel
theorem dX10_digestOfAll_44 : decode cX10_digestOfAll 44 = .ok (.lstore_n 3, 1) := by decide +kernel
theorem dX10_digestOfAll_45 : decode cX10_digestOfAll 45 = .ok (.lload_n 3, 1) := by decide +kernel
theorem dX10_digestOfAll_46 : decode cX10_digestOfAll 46 = .ok (.aload_n 0, 1) := by decide +kernel
theorem dX10_digestOfAll_47 : decode cX10_digestOfAll 47 = .ok (.getfield 58, 3) := by decide +kernel
theorem dX10_digestOfAll_50 : decode cX10_digestOfAll 50 = .ok (.getfield 177, 3) := by decide +kernel
theorem dX10_digestOfAll_53 : decode cX10_digestOfAll 53 = .ok (.i2l, 1) := by decide +kernel
theorem dX10_digestOfAll_54 : decode cX10_digestOfAll 54 = .ok (.invokestatic 304, 3) := by decide +kernel
theorem dX10_digestOfAll_57 : decode cX10_digestOfAll 57 = .ok (.lstore_n 3, 1) := by decide +kernel
theorem dX10_digestOfAll_58 : decode cX10_digestOfAll 58 = .ok (.lload_n 3, 1) := by decide +kernel
theorem dX10_digestOfAll_59 : decode cX10_digestOfAll 59 = .ok (.aload_n 0, 1) := by decide +kernel
theorem dX10_digestOfAll_60 : decode cX10_digestOfAll 60 = .ok (.getfield 58, 3) := by decide +kernel
theorem dX10_digestOfAll_63 : decode cX10_digestOfAll 63 = .ok (.invokevirtual 180, 3) := by decide +kernel
theorem dX10_digestOfAll_66 : decode cX10_digestOfAll 66 = .ok (.i2l, 1) := by decide +kernel
theorem dX10_digestOfAll_67 : decode cX10_digestOfAll 67 = .ok (.invokestatic 304, 3) := by decide +kernel
theorem dX10_digestOfAll_70 : decode cX10_digestOfAll 70 = .ok (.lstore_n 3, 1) := by decide +kernel
theorem dX10_digestOfAll_71 : decode cX10_digestOfAll 71 = .ok (.aload_n 0, 1) := by decide +kernel
theorem dX10_digestOfAll_72 : decode cX10_digestOfAll 72 = .ok (.getfield 71, 3) := by decide +kernel
theorem dX10_digestOfAll_75 : decode cX10_digestOfAll 75 = .ok (.invokevirtual 187, 3) := by decide +kernel
theorem dX10_digestOfAll_78 : decode cX10_digestOfAll 78 = .ok (.lload_n 3, 1) := by decide +kernel
theorem dX10_digestOfAll_79 : decode cX10_digestOfAll 79 = .ok (.aload_n 0, 1) := by decide +kernel
theorem dX10_digestOfAll_80 : decode cX10_digestOfAll 80 = .ok (.getfield 71, 3) := by decide +kernel
theorem dX10_digestOfAll_83 : decode cX10_digestOfAll 83 = .ok (.getfield 193, 3) := by decide +kernel
theorem dX10_digestOfAll_86 : decode cX10_digestOfAll 86 = .ok (.i2l, 1) := by decide +kernel
theorem dX10_digestOfAll_87 : decode cX10_digestOfAll 87 = .ok (.invokestatic 304, 3) := by decide +kernel
theorem dX10_digestOfAll_90 : decode cX10_digestOfAll 90 = .ok (.lstore_n 3, 1) := by decide +kernel
theorem dX10_digestOfAll_91 : decode cX10_digestOfAll 91 = .ok (.lload_n 3, 1) := by decide +kernel
theorem dX10_digestOfAll_92 : decode cX10_digestOfAll 92 = .ok (.aload_n 0, 1) := by decide +kernel
theorem dX10_digestOfAll_93 : decode cX10_digestOfAll 93 = .ok (.getfield 71, 3) := by decide +kernel
theorem dX10_digestOfAll_96 : decode cX10_digestOfAll 96 = .ok (.getfield 196, 3) := by decide +kernel
theorem dX10_digestOfAll_99 : decode cX10_digestOfAll 99 = .ok (.i2l, 1) := by decide +kernel
theorem dX10_digestOfAll_100 : decode cX10_digestOfAll 100 = .ok (.invokestatic 304, 3) := by decide +kernel
theorem dX10_digestOfAll_103 : decode cX10_digestOfAll 103 = .ok (.lstore_n 3, 1) := by decide +kernel
theorem dX10_digestOfAll_104 : decode cX10_digestOfAll 104 = .ok (.lload_n 3, 1) := by decide +kernel
theorem dX10_digestOfAll_105 : decode cX10_digestOfAll 105 = .ok (.aload_n 0, 1) := by decide +kernel
theorem dX10_digestOfAll_106 : decode cX10_digestOfAll 106 = .ok (.getfield 71, 3) := by decide +kernel
theorem dX10_digestOfAll_109 : decode cX10_digestOfAll 109 = .ok (.getfield 190, 3) := by decide +kernel
theorem dX10_digestOfAll_112 : decode cX10_digestOfAll 112 = .ok (.i2l, 1) := by decide +kernel
theorem dX10_digestOfAll_113 : decode cX10_digestOfAll 113 = .ok (.invokestatic 304, 3) := by decide +kernel
theorem dX10_digestOfAll_116 : decode cX10_digestOfAll 116 = .ok (.lstore_n 3, 1) := by decide +kernel
theorem dX10_digestOfAll_117 : decode cX10_digestOfAll 117 = .ok (.aload_n 0, 1) := by decide +kernel
theorem dX10_digestOfAll_118 : decode cX10_digestOfAll 118 = .ok (.getfield 71, 3) := by decide +kernel
theorem dX10_digestOfAll_121 : decode cX10_digestOfAll 121 = .ok (.aload_n 0, 1) := by decide +kernel
theorem dX10_digestOfAll_122 : decode cX10_digestOfAll 122 = .ok (.getfield 18, 3) := by decide +kernel
theorem dX10_digestOfAll_125 : decode cX10_digestOfAll 125 = .ok (.invokevirtual 202, 3) := by decide +kernel
theorem dX10_digestOfAll_128 : decode cX10_digestOfAll 128 = .ok (.lload_n 3, 1) := by decide +kernel
theorem dX10_digestOfAll_129 : decode cX10_digestOfAll 129 = .ok (.aload_n 0, 1) := by decide +kernel
theorem dX10_digestOfAll_130 : decode cX10_digestOfAll 130 = .ok (.getfield 71, 3) := by decide +kernel
theorem dX10_digestOfAll_133 : decode cX10_digestOfAll 133 = .ok (.getfield 193, 3) := by decide +kernel
theorem dX10_digestOfAll_136 : decode cX10_digestOfAll 136 = .ok (.i2l, 1) := by decide +kernel
theorem dX10_digestOfAll_137 : decode cX10_digestOfAll 137 = .ok (.invokestatic 304, 3) := by decide +kernel
theorem dX10_digestOfAll_140 : decode cX10_digestOfAll 140 = .ok (.lstore_n 3, 1) := by decide +kernel
theorem dX10_digestOfAll_141 : decode cX10_digestOfAll 141 = .ok (.lload_n 3, 1) := by decide +kernel
theorem dX10_digestOfAll_142 : decode cX10_digestOfAll 142 = .ok (.aload_n 0, 1) := by decide +kernel
theorem dX10_digestOfAll_143 : decode cX10_digestOfAll 143 = .ok (.getfield 71, 3) := by decide +kernel
theorem dX10_digestOfAll_146 : decode cX10_digestOfAll 146 = .ok (.getfield 190, 3) := by decide +kernel
theorem dX10_digestOfAll_149 : decode cX10_digestOfAll 149 = .ok (.i2l, 1) := by decide +kernel
theorem dX10_digestOfAll_150 : decode cX10_digestOfAll 150 = .ok (.invokestatic 304, 3) := by decide +kernel
theorem dX10_digestOfAll_153 : decode cX10_digestOfAll 153 = .ok (.lstore_n 3, 1) := by decide +kernel
theorem dX10_digestOfAll_154 : decode cX10_digestOfAll 154 = .ok (.lload_n 3, 1) := by decide +kernel
theorem dX10_digestOfAll_155 : decode cX10_digestOfAll 155 = .ok (.aload_n 0, 1) := by decide +kernel
theorem dX10_digestOfAll_156 : decode cX10_digestOfAll 156 = .ok (.getfield 78, 3) := by decide +kernel
theorem dX10_digestOfAll_159 : decode cX10_digestOfAll 159 = .ok (.invokevirtual 210, 3) := by decide +kernel
theorem dX10_digestOfAll_162 : decode cX10_digestOfAll 162 = .ok (.i2l, 1) := by decide +kernel
theorem dX10_digestOfAll_163 : decode cX10_digestOfAll 163 = .ok (.invokestatic 304, 3) := by decide +kernel
theorem dX10_digestOfAll_166 : decode cX10_digestOfAll 166 = .ok (.lstore_n 3, 1) := by decide +kernel
theorem dX10_digestOfAll_167 : decode cX10_digestOfAll 167 = .ok (.lload_n 3, 1) := by decide +kernel
theorem dX10_digestOfAll_168 : decode cX10_digestOfAll 168 = .ok (.aload_n 0, 1) := by decide +kernel
theorem dX10_digestOfAll_169 : decode cX10_digestOfAll 169 = .ok (.getfield 85, 3) := by decide +kernel
theorem dX10_digestOfAll_172 : decode cX10_digestOfAll 172 = .ok (.bipush 7, 2) := by decide +kernel
theorem dX10_digestOfAll_174 : decode cX10_digestOfAll 174 = .ok (.iconst 2, 1) := by decide +kernel
theorem dX10_digestOfAll_175 : decode cX10_digestOfAll 175 = .ok (.invokevirtual 246, 3) := by decide +kernel
theorem dX10_digestOfAll_178 : decode cX10_digestOfAll 178 = .ok (.i2l, 1) := by decide +kernel
theorem dX10_digestOfAll_179 : decode cX10_digestOfAll 179 = .ok (.invokestatic 304, 3) := by decide +kernel
theorem dX10_digestOfAll_182 : decode cX10_digestOfAll 182 = .ok (.lstore_n 3, 1) := by decide +kernel
theorem dX10_digestOfAll_183 : decode cX10_digestOfAll 183 = .ok (.lload_n 3, 1) := by decide +kernel
theorem dX10_digestOfAll_184 : decode cX10_digestOfAll 184 = .ok (.aload_n 0, 1) := by decide +kernel
theorem dX10_digestOfAll_185 : decode cX10_digestOfAll 185 = .ok (.getfield 85, 3) := by decide +kernel
theorem dX10_digestOfAll_188 : decode cX10_digestOfAll 188 = .ok (.bipush 7, 2) := by decide +kernel
theorem dX10_digestOfAll_190 : decode cX10_digestOfAll 190 = .ok (.iconst 4, 1) := by decide +kernel
theorem dX10_digestOfAll_191 : decode cX10_digestOfAll 191 = .ok (.invokevirtual 246, 3) := by decide +kernel
theorem dX10_digestOfAll_194 : decode cX10_digestOfAll 194 = .ok (.i2l, 1) := by decide +kernel
theorem dX10_digestOfAll_195 : decode cX10_digestOfAll 195 = .ok (.invokestatic 304, 3) := by decide +kernel
theorem dX10_digestOfAll_198 : decode cX10_digestOfAll 198 = .ok (.lreturn, 1) := by decide +kernel
theorem dX10_mix_0 : decode cX10_mix 0 = .ok (.ldc2_w 312, 3) := by decide +kernel
theorem dX10_mix_3 : decode cX10_mix 3 = .ok (.lload_n 0, 1) := by decide +kernel
theorem dX10_mix_4 : decode cX10_mix 4 = .ok (.lmul, 1) := by decide +kernel
theorem dX10_mix_5 : decode cX10_mix 5 = .ok (.lload_n 2, 1) := by decide +kernel
theorem dX10_mix_6 : decode cX10_mix 6 = .ok (.ladd, 1) := by decide +kernel
theorem dX10_mix_7 : decode cX10_mix 7 = .ok (.lreturn, 1) := by decide +kernel
theorem dX10_within_0 : decode cX10_within 0 = .ok (.iload_n 0, 1) := by decide +kernel
theorem dX10_within_1 : decode cX10_within 1 = .ok (.ifCond .lt 12, 3) := by decide +kernel
theorem dX10_within_4 : decode cX10_within 4 = .ok (.iload_n 0, 1) := by decide +kernel
theorem dX10_within_5 : decode cX10_within 5 = .ok (.iload_n 1, 1) := by decide +kernel
theorem dX10_within_6 : decode cX10_within 6 = .ok (.if_icmp .ge 7, 3) := by decide +kernel
theorem dX10_within_9 : decode cX10_within 9 = .ok (.iconst 1, 1) := by decide +kernel
theorem dX10_within_10 : decode cX10_within 10 = .ok (.goto 4, 3) := by decide +kernel
theorem dX10_within_13 : decode cX10_within 13 = .ok (.iconst 0, 1) := by decide +kernel
theorem dX10_within_14 : decode cX10_within 14 = .ok (.ireturn, 1) := by decide +kernel
theorem dX10_isCarter_0 : decode cX10_isCarter 0 = .ok (.iload_n 1, 1) := by decide +kernel
theorem dX10_isCarter_1 : decode cX10_isCarter 1 = .ok (.aload_n 0, 1) := by decide +kernel
theorem dX10_isCarter_2 : decode cX10_isCarter 2 = .ok (.getfield 25, 3) := by decide +kernel
theorem dX10_isCarter_5 : decode cX10_isCarter 5 = .ok (.getfield 128, 3) := by decide +kernel
theorem dX10_isCarter_8 : decode cX10_isCarter 8 = .ok (.invokestatic 100, 3) := by decide +kernel
theorem dX10_isCarter_11 : decode cX10_isCarter 11 = .ok (.ireturn, 1) := by decide +kernel
theorem dX10_textOf_0 : decode cX10_textOf 0 = .ok (.iload_n 1, 1) := by decide +kernel
theorem dX10_textOf_1 : decode cX10_textOf 1 = .ok (.ifCond .ne 10, 3) := by decide +kernel
theorem dX10_textOf_4 : decode cX10_textOf 4 = .ok (.aload_n 0, 1) := by decide +kernel
theorem dX10_textOf_5 : decode cX10_textOf 5 = .ok (.getfield 18, 3) := by decide +kernel
theorem dX10_textOf_8 : decode cX10_textOf 8 = .ok (.goto 7, 3) := by decide +kernel
theorem dX10_textOf_11 : decode cX10_textOf 11 = .ok (.aload_n 0, 1) := by decide +kernel
theorem dX10_textOf_12 : decode cX10_textOf 12 = .ok (.getfield 25, 3) := by decide +kernel
theorem dX10_textOf_15 : decode cX10_textOf 15 = .ok (.areturn, 1) := by decide +kernel
theorem dX10_textChanged_0 : decode cX10_textChanged 0 = .ok (.iload_n 1, 1) := by decide +kernel
theorem dX10_textChanged_1 : decode cX10_textChanged 1 = .ok (.ifCond .ne 21, 3) := by decide +kernel
theorem dX10_textChanged_4 : decode cX10_textChanged 4 = .ok (.aload_n 0, 1) := by decide +kernel
theorem dX10_textChanged_5 : decode cX10_textChanged 5 = .ok (.getfield 43, 3) := by decide +kernel
theorem dX10_textChanged_8 : decode cX10_textChanged 8 = .ok (.getfield 47, 3) := by decide +kernel
theorem dX10_textChanged_11 : decode cX10_textChanged 11 = .ok (.aload_n 0, 1) := by decide +kernel
theorem dX10_textChanged_12 : decode cX10_textChanged 12 = .ok (.getfield 18, 3) := by decide +kernel
theorem dX10_textChanged_15 : decode cX10_textChanged 15 = .ok (.iconst (-1), 1) := by decide +kernel
theorem dX10_textChanged_16 : decode cX10_textChanged 16 = .ok (.invokevirtual 51, 3) := by decide +kernel
theorem dX10_textChanged_19 : decode cX10_textChanged 19 = .ok (.goto 14, 3) := by decide +kernel
theorem dX10_textChanged_22 : decode cX10_textChanged 22 = .ok (.aload_n 0, 1) := by decide +kernel
theorem dX10_textChanged_23 : decode cX10_textChanged 23 = .ok (.getfield 43, 3) := by decide +kernel
theorem dX10_textChanged_26 : decode cX10_textChanged 26 = .ok (.aload_n 0, 1) := by decide +kernel
theorem dX10_textChanged_27 : decode cX10_textChanged 27 = .ok (.getfield 25, 3) := by decide +kernel
theorem dX10_textChanged_30 : decode cX10_textChanged 30 = .ok (.invokevirtual 314, 3) := by decide +kernel
theorem dX10_textChanged_33 : decode cX10_textChanged 33 = .ok (.aload_n 0, 1) := by decide +kernel
theorem dX10_textChanged_34 : decode cX10_textChanged 34 = .ok (.getfield 58, 3) := by decide +kernel
theorem dX10_textChanged_37 : decode cX10_textChanged 37 = .ok (.aload_n 0, 1) := by decide +kernel
theorem dX10_textChanged_38 : decode cX10_textChanged 38 = .ok (.getfield 43, 3) := by decide +kernel
theorem dX10_textChanged_41 : decode cX10_textChanged 41 = .ok (.invokevirtual 62, 3) := by decide +kernel
theorem dX10_textChanged_44 : decode cX10_textChanged 44 = .ok (.return_, 1) := by decide +kernel
theorem dX10_found_0 : decode cX10_found 0 = .ok (.aload_n 0, 1) := by decide +kernel
theorem dX10_found_1 : decode cX10_found 1 = .ok (.iload_n 1, 1) := by decide +kernel
theorem dX10_found_2 : decode cX10_found 2 = .ok (.putfield 96, 3) := by decide +kernel
theorem dX10_found_5 : decode cX10_found 5 = .ok (.bipush (-10), 2) := by decide +kernel
theorem dX10_found_7 : decode cX10_found 7 = .ok (.iload_n 1, 1) := by decide +kernel
theorem dX10_found_8 : decode cX10_found 8 = .ok (.isub, 1) := by decide +kernel
theorem dX10_found_9 : decode cX10_found 9 = .ok (.ireturn, 1) := by decide +kernel
theorem dX10_itemRefusal_0 : decode cX10_itemRefusal 0 = .ok (.iload_n 1, 1) := by decide +kernel
theorem dX10_itemRefusal_1 : decode cX10_itemRefusal 1 = .ok (.iconst 4, 1) := by decide +kernel
theorem dX10_itemRefusal_2 : decode cX10_itemRefusal 2 = .ok (.invokestatic 100, 3) := by decide +kernel
theorem dX10_itemRefusal_5 : decode cX10_itemRefusal 5 = .ok (.ifCond .eq 11, 3) := by decide +kernel
theorem dX10_itemRefusal_8 : decode cX10_itemRefusal 8 = .ok (.iload_n 2, 1) := by decide +kernel
theorem dX10_itemRefusal_9 : decode cX10_itemRefusal 9 = .ok (.iconst 3, 1) := by decide +kernel
theorem dX10_itemRefusal_10 : decode cX10_itemRefusal 10 = .ok (.invokestatic 100, 3) := by decide +kernel
theorem dX10_itemRefusal_13 : decode cX10_itemRefusal 13 = .ok (.ifCond .ne 6, 3) := by decide +kernel
theorem dX10_itemRefusal_16 : decode cX10_itemRefusal 16 = .ok (.bipush (-2), 2) := by decide +kernel
theorem dX10_itemRefusal_18 : decode cX10_itemRefusal 18 = .ok (.ireturn, 1) := by decide +kernel
theorem dX10_itemRefusal_19 : decode cX10_itemRefusal 19 = .ok (.aload_n 0, 1) := by decide +kernel
theorem dX10_itemRefusal_20 : decode cX10_itemRefusal 20 = .ok (.getfield 91, 3) := by decide +kernel
theorem dX10_itemRefusal_23 : decode cX10_itemRefusal 23 = .ok (.iload_n 1, 1) := by decide +kernel
theorem dX10_itemRefusal_24 : decode cX10_itemRefusal 24 = .ok (.aaload, 1) := by decide +kernel
theorem dX10_itemRefusal_25 : decode cX10_itemRefusal 25 = .ok (.getfield 150, 3) := by decide +kernel
theorem dX10_itemRefusal_28 : decode cX10_itemRefusal 28 = .ok (.ifCond .eq 9, 3) := by decide +kernel
theorem dX10_itemRefusal_31 : decode cX10_itemRefusal 31 = .ok (.aload_n 0, 1) := by decide +kernel
theorem dX10_itemRefusal_32 : decode cX10_itemRefusal 32 = .ok (.iconst 1, 1) := by decide +kernel
theorem dX10_itemRefusal_33 : decode cX10_itemRefusal 33 = .ok (.invokevirtual 154, 3) := by decide +kernel
theorem dX10_itemRefusal_36 : decode cX10_itemRefusal 36 = .ok (.ireturn, 1) := by decide +kernel
theorem dX10_itemRefusal_37 : decode cX10_itemRefusal 37 = .ok (.aload_n 0, 1) := by decide +kernel
theorem dX10_itemRefusal_38 : decode cX10_itemRefusal 38 = .ok (.getfield 91, 3) := by decide +kernel
theorem dX10_itemRefusal_41 : decode cX10_itemRefusal 41 = .ok (.iload_n 1, 1) := by decide +kernel
theorem dX10_itemRefusal_42 : decode cX10_itemRefusal 42 = .ok (.aaload, 1) := by decide +kernel
theorem dX10_itemRefusal_43 : decode cX10_itemRefusal 43 = .ok (.getfield 259, 3) := by decide +kernel
theorem dX10_itemRefusal_46 : decode cX10_itemRefusal 46 = .ok (.iload_n 2, 1) := by decide +kernel
theorem dX10_itemRefusal_47 : decode cX10_itemRefusal 47 = .ok (.if_icmp .eq 9, 3) := by decide +kernel
theorem dX10_itemRefusal_50 : decode cX10_itemRefusal 50 = .ok (.aload_n 0, 1) := by decide +kernel
theorem dX10_itemRefusal_51 : decode cX10_itemRefusal 51 = .ok (.iconst 3, 1) := by decide +kernel
theorem dX10_itemRefusal_52 : decode cX10_itemRefusal 52 = .ok (.invokevirtual 154, 3) := by decide +kernel
theorem dX10_itemRefusal_55 : decode cX10_itemRefusal 55 = .ok (.ireturn, 1) := by decide +kernel
theorem dX10_itemRefusal_56 : decode cX10_itemRefusal 56 = .ok (.iload_n 3, 1) := by decide +kernel
theorem dX10_itemRefusal_57 : decode cX10_itemRefusal 57 = .ok (.aload_n 0, 1) := by decide +kernel
theorem dX10_itemRefusal_58 : decode cX10_itemRefusal 58 = .ok (.getfield 91, 3) := by decide +kernel
theorem dX10_itemRefusal_61 : decode cX10_itemRefusal 61 = .ok (.iload_n 1, 1) := by decide +kernel
theorem dX10_itemRefusal_62 : decode cX10_itemRefusal 62 = .ok (.aaload, 1) := by decide +kernel
theorem dX10_itemRefusal_63 : decode cX10_itemRefusal 63 = .ok (.getfield 158, 3) := by decide +kernel
theorem dX10_itemRefusal_66 : decode cX10_itemRefusal 66 = .ok (.invokestatic 100, 3) := by decide +kernel
theorem dX10_itemRefusal_69 : decode cX10_itemRefusal 69 = .ok (.ifCond .eq 7, 3) := by decide +kernel
theorem dX10_itemRefusal_72 : decode cX10_itemRefusal 72 = .ok (.iconst 0, 1) := by decide +kernel
theorem dX10_itemRefusal_73 : decode cX10_itemRefusal 73 = .ok (.goto 8, 3) := by decide +kernel
theorem dX10_itemRefusal_76 : decode cX10_itemRefusal 76 = .ok (.aload_n 0, 1) := by decide +kernel
theorem dX10_itemRefusal_77 : decode cX10_itemRefusal 77 = .ok (.iconst 2, 1) := by decide +kernel
theorem dX10_itemRefusal_78 : decode cX10_itemRefusal 78 = .ok (.invokevirtual 154, 3) := by decide +kernel
theorem dX10_itemRefusal_81 : decode cX10_itemRefusal 81 = .ok (.ireturn, 1) := by decide +kernel
theorem dX10_behind_0 : decode cX10_behind 0 = .ok (.aload_n 0, 1) := by decide +kernel
theorem dX10_behind_1 : decode cX10_behind 1 = .ok (.getfield 58, 3) := by decide +kernel
theorem dX10_behind_4 : decode cX10_behind 4 = .ok (.getfield 317, 3) := by decide +kernel
theorem dX10_behind_7 : decode cX10_behind 7 = .ok (.iload_n 2, 1) := by decide +kernel
theorem dX10_behind_8 : decode cX10_behind 8 = .ok (.iload_n 1, 1) := by decide +kernel
theorem dX10_behind_9 : decode cX10_behind 9 = .ok (.invokevirtual 321, 3) := by decide +kernel
theorem dX10_behind_12 : decode cX10_behind 12 = .ok (.istore 4, 2) := by decide +kernel
theorem dX10_behind_14 : decode cX10_behind 14 = .ok (.iload 4, 2) := by decide +kernel
theorem dX10_behind_16 : decode cX10_behind 16 = .ok (.iconst (-1), 1) := by decide +kernel
theorem dX10_behind_17 : decode cX10_behind 17 = .ok (.if_icmp .ne 28, 3) := by decide +kernel
theorem dX10_behind_20 : decode cX10_behind 20 = .ok (.iload_n 3, 1) := by decide +kernel
theorem dX10_behind_21 : decode cX10_behind 21 = .ok (.ifCond .ne 5, 3) := by decide +kernel
theorem dX10_behind_24 : decode cX10_behind 24 = .ok (.iconst 0, 1) := by decide +kernel
theorem dX10_behind_25 : decode cX10_behind 25 = .ok (.ireturn, 1) := by decide +kernel
theorem dX10_behind_26 : decode cX10_behind 26 = .ok (.iload_n 3, 1) := by decide +kernel
theorem dX10_behind_27 : decode cX10_behind 27 = .ok (.iconst 2, 1) := by decide +kernel
theorem dX10_behind_28 : decode cX10_behind 28 = .ok (.if_icmp .ne 15, 3) := by decide +kernel
theorem dX10_behind_31 : decode cX10_behind 31 = .ok (.aload_n 0, 1) := by decide +kernel
theorem dX10_behind_32 : decode cX10_behind 32 = .ok (.getfield 43, 3) := by decide +kernel
theorem dX10_behind_35 : decode cX10_behind 35 = .ok (.getfield 326, 3) := by decide +kernel
theorem dX10_behind_38 : decode cX10_behind 38 = .ok (.iload_n 2, 1) := by decide +kernel
theorem dX10_behind_39 : decode cX10_behind 39 = .ok (.iaload, 1) := by decide +kernel
theorem dX10_behind_40 : decode cX10_behind 40 = .ok (.goto 4, 3) := by decide +kernel
theorem dX10_behind_43 : decode cX10_behind 43 = .ok (.iconst (-1), 1) := by decide +kernel
theorem dX10_behind_44 : decode cX10_behind 44 = .ok (.ireturn, 1) := by decide +kernel
theorem dX10_behind_45 : decode cX10_behind 45 = .ok (.aload_n 0, 1) := by decide +kernel
theorem dX10_behind_46 : decode cX10_behind 46 = .ok (.getfield 58, 3) := by decide +kernel
theorem dX10_behind_49 : decode cX10_behind 49 = .ok (.getfield 317, 3) := by decide +kernel
theorem dX10_behind_52 : decode cX10_behind 52 = .ok (.getfield 329, 3) := by decide +kernel
theorem dX10_behind_55 : decode cX10_behind 55 = .ok (.iload 4, 2) := by decide +kernel
theorem dX10_behind_57 : decode cX10_behind 57 = .ok (.iaload, 1) := by decide +kernel
theorem dX10_behind_58 : decode cX10_behind 58 = .ok (.istore 5, 2) := by decide +kernel
theorem dX10_behind_60 : decode cX10_behind 60 = .ok (.iload_n 3, 1) := by decide +kernel
theorem dX10_behind_61 : decode cX10_behind 61 = .ok (.tableswitch 85 0 2 #[27, 47, 71], 27) := by decide +kernel
theorem dX10_behind_88 : decode cX10_behind 88 = .ok (.iload 5, 2) := by decide +kernel
theorem dX10_behind_90 : decode cX10_behind 90 = .ok (.iconst (-1), 1) := by decide +kernel
theorem dX10_behind_91 : decode cX10_behind 91 = .ok (.if_icmp .ne 15, 3) := by decide +kernel
theorem dX10_behind_94 : decode cX10_behind 94 = .ok (.aload_n 0, 1) := by decide +kernel
theorem dX10_behind_95 : decode cX10_behind 95 = .ok (.getfield 58, 3) := by decide +kernel
theorem dX10_behind_98 : decode cX10_behind 98 = .ok (.getfield 332, 3) := by decide +kernel
theorem dX10_behind_101 : decode cX10_behind 101 = .ok (.iload_n 2, 1) := by decide +kernel
theorem dX10_behind_102 : decode cX10_behind 102 = .ok (.iaload, 1) := by decide +kernel
theorem dX10_behind_103 : decode cX10_behind 103 = .ok (.goto 4, 3) := by decide +kernel
theorem dX10_behind_106 : decode cX10_behind 106 = .ok (.iconst 1, 1) := by decide +kernel
theorem dX10_behind_107 : decode cX10_behind 107 = .ok (.ireturn, 1) := by decide +kernel
theorem dX10_behind_108 : decode cX10_behind 108 = .ok (.iload 5, 2) := by decide +kernel
theorem dX10_behind_110 : decode cX10_behind 110 = .ok (.iconst (-1), 1) := by decide +kernel
theorem dX10_behind_111 : decode cX10_behind 111 = .ok (.if_icmp .ne 19, 3) := by decide +kernel
theorem dX10_behind_114 : decode cX10_behind 114 = .ok (.aload_n 0, 1) := by decide +kernel
theorem dX10_behind_115 : decode cX10_behind 115 = .ok (.getfield 58, 3) := by decide +kernel
theorem dX10_behind_118 : decode cX10_behind 118 = .ok (.getfield 317, 3) := by decide +kernel
theorem dX10_behind_121 : decode cX10_behind 121 = .ok (.getfield 335, 3) := by decide +kernel
theorem dX10_behind_124 : decode cX10_behind 124 = .ok (.iload 4, 2) := by decide +kernel
theorem dX10_behind_126 : decode cX10_behind 126 = .ok (.iaload, 1) := by decide +kernel
theorem dX10_behind_127 : decode cX10_behind 127 = .ok (.goto 4, 3) := by decide +kernel
theorem dX10_behind_130 : decode cX10_behind 130 = .ok (.iconst (-1), 1) := by decide +kernel
theorem dX10_behind_131 : decode cX10_behind 131 = .ok (.ireturn, 1) := by decide +kernel
theorem dX10_behind_132 : decode cX10_behind 132 = .ok (.aload_n 0, 1) := by decide +kernel
theorem dX10_behind_133 : decode cX10_behind 133 = .ok (.getfield 58, 3) := by decide +kernel
theorem dX10_behind_136 : decode cX10_behind 136 = .ok (.getfield 317, 3) := by decide +kernel
theorem dX10_behind_139 : decode cX10_behind 139 = .ok (.getfield 338, 3) := by decide +kernel
theorem dX10_behind_142 : decode cX10_behind 142 = .ok (.iload 4, 2) := by decide +kernel
theorem dX10_behind_144 : decode cX10_behind 144 = .ok (.iaload, 1) := by decide +kernel
theorem dX10_behind_145 : decode cX10_behind 145 = .ok (.ireturn, 1) := by decide +kernel
theorem dX10_behind_146 : decode cX10_behind 146 = .ok (.iload 5, 2) := by decide +kernel
theorem dX10_behind_148 : decode cX10_behind 148 = .ok (.ireturn, 1) := by decide +kernel
theorem dX11_init_0 : decode cX11_init 0 = .ok (.aload_n 0, 1) := by decide +kernel
theorem dX11_init_1 : decode cX11_init 1 = .ok (.invokespecial 1, 3) := by decide +kernel
theorem dX11_init_4 : decode cX11_init 4 = .ok (.aload_n 0, 1) := by decide +kernel
theorem dX11_init_5 : decode cX11_init 5 = .ok (.iconst 4, 1) := by decide +kernel
theorem dX11_init_6 : decode cX11_init 6 = .ok (.newarray .int, 2) := by decide +kernel
theorem dX11_init_8 : decode cX11_init 8 = .ok (.putfield 7, 3) := by decide +kernel
theorem dX11_init_11 : decode cX11_init 11 = .ok (.aload_n 0, 1) := by decide +kernel
theorem dX11_init_12 : decode cX11_init 12 = .ok (.iconst 4, 1) := by decide +kernel
theorem dX11_init_13 : decode cX11_init 13 = .ok (.newarray .int, 2) := by decide +kernel
theorem dX11_init_15 : decode cX11_init 15 = .ok (.putfield 13, 3) := by decide +kernel
theorem dX11_init_18 : decode cX11_init 18 = .ok (.aload_n 0, 1) := by decide +kernel
theorem dX11_init_19 : decode cX11_init 19 = .ok (.sipush 240, 3) := by decide +kernel
theorem dX11_init_22 : decode cX11_init 22 = .ok (.newarray .int, 2) := by decide +kernel
theorem dX11_init_24 : decode cX11_init 24 = .ok (.putfield 16, 3) := by decide +kernel
theorem dX11_init_27 : decode cX11_init 27 = .ok (.aload_n 0, 1) := by decide +kernel
theorem dX11_init_28 : decode cX11_init 28 = .ok (.bipush 60, 2) := by decide +kernel
theorem dX11_init_30 : decode cX11_init 30 = .ok (.newarray .int, 2) := by decide +kernel
theorem dX11_init_32 : decode cX11_init 32 = .ok (.putfield 19, 3) := by decide +kernel
theorem dX11_init_35 : decode cX11_init 35 = .ok (.aload_n 0, 1) := by decide +kernel
theorem dX11_init_36 : decode cX11_init 36 = .ok (.bipush 112, 2) := by decide +kernel
theorem dX11_init_38 : decode cX11_init 38 = .ok (.newarray .int, 2) := by decide +kernel
theorem dX11_init_40 : decode cX11_init 40 = .ok (.putfield 22, 3) := by decide +kernel
theorem dX11_init_43 : decode cX11_init 43 = .ok (.aload_n 0, 1) := by decide +kernel
theorem dX11_init_44 : decode cX11_init 44 = .ok (.iconst 2, 1) := by decide +kernel
theorem dX11_init_45 : decode cX11_init 45 = .ok (.newarray .int, 2) := by decide +kernel
theorem dX11_init_47 : decode cX11_init 47 = .ok (.putfield 25, 3) := by decide +kernel
theorem dX11_init_50 : decode cX11_init 50 = .ok (.aload_n 0, 1) := by decide +kernel
theorem dX11_init_51 : decode cX11_init 51 = .ok (.bipush 40, 2) := by decide +kernel
theorem dX11_init_53 : decode cX11_init 53 = .ok (.newarray .int, 2) := by decide +kernel
theorem dX11_init_55 : decode cX11_init 55 = .ok (.putfield 28, 3) := by decide +kernel
theorem dX11_init_58 : decode cX11_init 58 = .ok (.aload_n 0, 1) := by decide +kernel
theorem dX11_init_59 : decode cX11_init 59 = .ok (.bipush 40, 2) := by decide +kernel
theorem dX11_init_61 : decode cX11_init 61 = .ok (.newarray .int, 2) := by decide +kernel
theorem dX11_init_63 : decode cX11_init 63 = .ok (.putfield 31, 3) := by decide +kernel
theorem dX11_init_66 : decode cX11_init 66 = .ok (.aload_n 0, 1) := by decide +kernel
theorem dX11_init_67 : decode cX11_init 67 = .ok (.bipush 8, 2) := by decide +kernel
theorem dX11_init_69 : decode cX11_init 69 = .ok (.newarray .int, 2) := by decide +kernel
theorem dX11_init_71 : decode cX11_init 71 = .ok (.putfield 34, 3) := by decide +kernel
theorem dX11_init_74 : decode cX11_init 74 = .ok (.aload_n 0, 1) := by decide +kernel
theorem dX11_init_75 : decode cX11_init 75 = .ok (.bipush 16, 2) := by decide +kernel
theorem dX11_init_77 : decode cX11_init 77 = .ok (.newarray .int, 2) := by decide +kernel
theorem dX11_init_79 : decode cX11_init 79 = .ok (.putfield 37, 3) := by decide +kernel
theorem dX11_init_82 : decode cX11_init 82 = .ok (.aload_n 0, 1) := by decide +kernel
theorem dX11_init_83 : decode cX11_init 83 = .ok (.bipush 64, 2) := by decide +kernel
theorem dX11_init_85 : decode cX11_init 85 = .ok (.newarray .int, 2) := by decide +kernel
theorem dX11_init_87 : decode cX11_init 87 = .ok (.putfield 40, 3) := by decide +kernel
theorem dX11_init_90 : decode cX11_init 90 = .ok (.aload_n 0, 1) := by decide +kernel
theorem dX11_init_91 : decode cX11_init 91 = .ok (.bipush 64, 2) := by decide +kernel
theorem dX11_init_93 : decode cX11_init 93 = .ok (.newarray .int, 2) := by decide +kernel
theorem dX11_init_95 : decode cX11_init 95 = .ok (.putfield 43, 3) := by decide +kernel
theorem dX11_init_98 : decode cX11_init 98 = .ok (.aload_n 0, 1) := by decide +kernel
theorem dX11_init_99 : decode cX11_init 99 = .ok (.bipush 8, 2) := by decide +kernel
theorem dX11_init_101 : decode cX11_init 101 = .ok (.newarray .int, 2) := by decide +kernel
theorem dX11_init_103 : decode cX11_init 103 = .ok (.putfield 46, 3) := by decide +kernel
theorem dX11_init_106 : decode cX11_init 106 = .ok (.aload_n 0, 1) := by decide +kernel
theorem dX11_init_107 : decode cX11_init 107 = .ok (.bipush 8, 2) := by decide +kernel
theorem dX11_init_109 : decode cX11_init 109 = .ok (.newarray .int, 2) := by decide +kernel
theorem dX11_init_111 : decode cX11_init 111 = .ok (.putfield 49, 3) := by decide +kernel
theorem dX11_init_114 : decode cX11_init 114 = .ok (.aload_n 0, 1) := by decide +kernel
theorem dX11_init_115 : decode cX11_init 115 = .ok (.bipush 8, 2) := by decide +kernel
theorem dX11_init_117 : decode cX11_init 117 = .ok (.newarray .int, 2) := by decide +kernel
theorem dX11_init_119 : decode cX11_init 119 = .ok (.putfield 52, 3) := by decide +kernel
theorem dX11_init_122 : decode cX11_init 122 = .ok (.aload_n 0, 1) := by decide +kernel
theorem dX11_init_123 : decode cX11_init 123 = .ok (.bipush 8, 2) := by decide +kernel
theorem dX11_init_125 : decode cX11_init 125 = .ok (.newarray .int, 2) := by decide +kernel
theorem dX11_init_127 : decode cX11_init 127 = .ok (.putfield 55, 3) := by decide +kernel
theorem dX11_init_130 : decode cX11_init 130 = .ok (.aload_n 0, 1) := by decide +kernel
theorem dX11_init_131 : decode cX11_init 131 = .ok (.bipush 8, 2) := by decide +kernel
theorem dX11_init_133 : decode cX11_init 133 = .ok (.newarray .int, 2) := by decide +kernel
theorem dX11_init_135 : decode cX11_init 135 = .ok (.putfield 58, 3) := by decide +kernel
theorem dX11_init_138 : decode cX11_init 138 = .ok (.aload_n 0, 1) := by decide +kernel
theorem dX11_init_139 : decode cX11_init 139 = .ok (.bipush 8, 2) := by decide +kernel
theorem dX11_init_141 : decode cX11_init 141 = .ok (.newarray .int, 2) := by decide +kernel
theorem dX11_init_143 : decode cX11_init 143 = .ok (.putfield 61, 3) := by decide +kernel
theorem dX11_init_146 : decode cX11_init 146 = .ok (.aload_n 0, 1) := by decide +kernel
theorem dX11_init_147 : decode cX11_init 147 = .ok (.sipush 1280, 3) := by decide +kernel
theorem dX11_init_150 : decode cX11_init 150 = .ok (.newarray .int, 2) := by decide +kernel
theorem dX11_init_152 : decode cX11_init 152 = .ok (.putfield 64, 3) := by decide +kernel
theorem dX11_init_155 : decode cX11_init 155 = .ok (.aload_n 0, 1) := by decide +kernel
theorem dX11_init_156 : decode cX11_init 156 = .ok (.bipush 8, 2) := by decide +kernel
theorem dX11_init_158 : decode cX11_init 158 = .ok (.newarray .int, 2) := by decide +kernel
theorem dX11_init_160 : decode cX11_init 160 = .ok (.putfield 67, 3) := by decide +kernel
theorem dX11_init_163 : decode cX11_init 163 = .ok (.aload_n 0, 1) := by decide +kernel
theorem dX11_init_164 : decode cX11_init 164 = .ok (.bipush 8, 2) := by decide +kernel
theorem dX11_init_166 : decode cX11_init 166 = .ok (.newarray .int, 2) := by decide +kernel
theorem dX11_init_168 : decode cX11_init 168 = .ok (.putfield 70, 3) := by decide +kernel
theorem dX11_init_171 : decode cX11_init 171 = .ok (.aload_n 0, 1) := by decide +kernel
theorem dX11_init_172 : decode cX11_init 172 = .ok (.bipush 24, 2) := by decide +kernel
theorem dX11_init_174 : decode cX11_init 174 = .ok (.newarray .int, 2) := by decide +kernel
theorem dX11_init_176 : decode cX11_init 176 = .ok (.putfield 73, 3) := by decide +kernel
theorem dX11_init_179 : decode cX11_init 179 = .ok (.aload_n 0, 1) := by decide +kernel
theorem dX11_init_180 : decode cX11_init 180 = .ok (.bipush 120, 2) := by decide +kernel
theorem dX11_init_182 : decode cX11_init 182 = .ok (.newarray .int, 2) := by decide +kernel
theorem dX11_init_184 : decode cX11_init 184 = .ok (.putfield 76, 3) := by decide +kernel
theorem dX11_init_187 : decode cX11_init 187 = .ok (.iconst 0, 1) := by decide +kernel
theorem dX11_init_188 : decode cX11_init 188 = .ok (.istore_n 1, 1) := by decide +kernel
theorem dX11_init_189 : decode cX11_init 189 = .ok (.iload_n 1, 1) := by decide +kernel
theorem dX11_init_190 : decode cX11_init 190 = .ok (.iconst 4, 1) := by decide +kernel
theorem dX11_init_191 : decode cX11_init 191 = .ok (.if_icmp .ge 16, 3) := by decide +kernel
theorem dX11_init_194 : decode cX11_init 194 = .ok (.aload_n 0, 1) := by decide +kernel
theorem dX11_init_195 : decode cX11_init 195 = .ok (.getfield 7, 3) := by decide +kernel
theorem dX11_init_198 : decode cX11_init 198 = .ok (.iload_n 1, 1) := by decide +kernel
theorem dX11_init_199 : decode cX11_init 199 = .ok (.iconst (-1), 1) := by decide +kernel
theorem dX11_init_200 : decode cX11_init 200 = .ok (.iastore, 1) := by decide +kernel
theorem dX11_init_201 : decode cX11_init 201 = .ok (.iinc 1 1, 3) := by decide +kernel
theorem dX11_init_204 : decode cX11_init 204 = .ok (.goto (-15), 3) := by decide +kernel
theorem dX11_init_207 : decode cX11_init 207 = .ok (.return_, 1) := by decide +kernel
theorem dX11_in_0 : decode cX11_in 0 = .ok (.lload_n 0, 1) := by decide +kernel
theorem dX11_in_1 : decode cX11_in 1 = .ok (.lload_n 2, 1) := by decide +kernel
theorem dX11_in_2 : decode cX11_in 2 = .ok (.lcmp, 1) := by decide +kernel
theorem dX11_in_3 : decode cX11_in 3 = .ok (.ifCond .lt 14, 3) := by decide +kernel
theorem dX11_in_6 : decode cX11_in 6 = .ok (.lload_n 0, 1) := by decide +kernel
theorem dX11_in_7 : decode cX11_in 7 = .ok (.lload 4, 2) := by decide +kernel
theorem dX11_in_9 : decode cX11_in 9 = .ok (.lcmp, 1) := by decide +kernel
theorem dX11_in_10 : decode cX11_in 10 = .ok (.ifCond .gt 7, 3) := by decide +kernel
theorem dX11_in_13 : decode cX11_in 13 = .ok (.iconst 1, 1) := by decide +kernel
theorem dX11_in_14 : decode cX11_in 14 = .ok (.goto 4, 3) := by decide +kernel
theorem dX11_in_17 : decode cX11_in 17 = .ok (.iconst 0, 1) := by decide +kernel
theorem dX11_in_18 : decode cX11_in 18 = .ok (.ireturn, 1) := by decide +kernel
theorem dX11_no_0 : decode cX11_no 0 = .ok (.ldc2_w 79, 3) := by decide +kernel
theorem dX11_no_3 : decode cX11_no 3 = .ok (.iload_n 0, 1) := by decide +kernel
theorem dX11_no_4 : decode cX11_no 4 = .ok (.i2l, 1) := by decide +kernel
theorem dX11_no_5 : decode cX11_no 5 = .ok (.lsub, 1) := by decide +kernel
theorem dX11_no_6 : decode cX11_no 6 = .ok (.lreturn, 1) := by decide +kernel
theorem dX11_isTwo_0 : decode cX11_isTwo 0 = .ok (.iload_n 0, 1) := by decide +kernel
theorem dX11_isTwo_1 : decode cX11_isTwo 1 = .ok (.i2l, 1) := by decide +kernel
theorem dX11_isTwo_2 : decode cX11_isTwo 2 = .ok (.lconst 0, 1) := by decide +kernel
theorem dX11_isTwo_3 : decode cX11_isTwo 3 = .ok (.lconst 1, 1) := by decide +kernel
theorem dX11_isTwo_4 : decode cX11_isTwo 4 = .ok (.invokestatic 81, 3) := by decide +kernel
theorem dX11_isTwo_7 : decode cX11_isTwo 7 = .ok (.ireturn, 1) := by decide +kernel
theorem dX11_isIn_0 : decode cX11_isIn 0 = .ok (.iload_n 0, 1) := by decide +kernel
theorem dX11_isIn_1 : decode cX11_isIn 1 = .ok (.iload_n 1, 1) := by decide +kernel
theorem dX11_isIn_2 : decode cX11_isIn 2 = .ok (.ishr, 1) := by decide +kernel
theorem dX11_isIn_3 : decode cX11_isIn 3 = .ok (.iconst 1, 1) := by decide +kernel
theorem dX11_isIn_4 : decode cX11_isIn 4 = .ok (.iand, 1) := by decide +kernel
theorem dX11_isIn_5 : decode cX11_isIn 5 = .ok (.iconst 1, 1) := by decide +kernel
theorem dX11_isIn_6 : decode cX11_isIn 6 = .ok (.if_icmp .ne 7, 3) := by decide +kernel
theorem dX11_isIn_9 : decode cX11_isIn 9 = .ok (.iconst 1, 1) := by decide +kernel
theorem dX11_isIn_10 : decode cX11_isIn 10 = .ok (.goto 4, 3) := by decide +kernel
theorem dX11_isIn_13 : decode cX11_isIn 13 = .ok (.iconst 0, 1) := by decide +kernel
theorem dX11_isIn_14 : decode cX11_isIn 14 = .ok (.ireturn, 1) := by decide +kernel
theorem dX11_ones_0 : decode cX11_ones 0 = .ok (.iconst 0, 1) := by decide +kernel
theorem dX11_ones_1 : decode cX11_ones 1 = .ok (.istore_n 1, 1) := by decide +kernel
theorem dX11_ones_2 : decode cX11_ones 2 = .ok (.iload_n 0, 1) := by decide +kernel
theorem dX11_ones_3 : decode cX11_ones 3 = .ok (.istore_n 2, 1) := by decide +kernel
theorem dX11_ones_4 : decode cX11_ones 4 = .ok (.iload_n 2, 1) := by decide +kernel
theorem dX11_ones_5 : decode cX11_ones 5 = .ok (.ifCond .eq 15, 3) := by decide +kernel
theorem dX11_ones_8 : decode cX11_ones 8 = .ok (.iinc 1 1, 3) := by decide +kernel
theorem dX11_ones_11 : decode cX11_ones 11 = .ok (.iload_n 2, 1) := by decide +kernel
theorem dX11_ones_12 : decode cX11_ones 12 = .ok (.iload_n 2, 1) := by decide +kernel
theorem dX11_ones_13 : decode cX11_ones 13 = .ok (.iconst 1, 1) := by decide +kernel
theorem dX11_ones_14 : decode cX11_ones 14 = .ok (.isub, 1) := by decide +kernel
theorem dX11_ones_15 : decode cX11_ones 15 = .ok (.iand, 1) := by decide +kernel
theorem dX11_ones_16 : decode cX11_ones 16 = .ok (.istore_n 2, 1) := by decide +kernel
theorem dX11_ones_17 : decode cX11_ones 17 = .ok (.goto (-13), 3) := by decide +kernel
theorem dX11_ones_20 : decode cX11_ones 20 = .ok (.iload_n 1, 1) := by decide +kernel
theorem dX11_ones_21 : decode cX11_ones 21 = .ok (.ireturn, 1) := by decide +kernel
theorem dX11_lesser_0 : decode cX11_lesser 0 = .ok (.iload_n 0, 1) := by decide +kernel
theorem dX11_lesser_1 : decode cX11_lesser 1 = .ok (.iload_n 1, 1) := by decide +kernel
theorem dX11_lesser_2 : decode cX11_lesser 2 = .ok (.if_icmp .ge 7, 3) := by decide +kernel
theorem dX11_lesser_5 : decode cX11_lesser 5 = .ok (.iload_n 0, 1) := by decide +kernel
theorem dX11_lesser_6 : decode cX11_lesser 6 = .ok (.goto 4, 3) := by decide +kernel
theorem dX11_lesser_9 : decode cX11_lesser 9 = .ok (.iload_n 1, 1) := by decide +kernel
theorem dX11_lesser_10 : decode cX11_lesser 10 = .ok (.ireturn, 1) := by decide +kernel
theorem dX11_greater_0 : decode cX11_greater 0 = .ok (.iload_n 0, 1) := by decide +kernel
theorem dX11_greater_1 : decode cX11_greater 1 = .ok (.iload_n 1, 1) := by decide +kernel
theorem dX11_greater_2 : decode cX11_greater 2 = .ok (.if_icmp .le 7, 3) := by decide +kernel
theorem dX11_greater_5 : decode cX11_greater 5 = .ok (.iload_n 0, 1) := by decide +kernel
theorem dX11_greater_6 : decode cX11_greater 6 = .ok (.goto 4, 3) := by decide +kernel
theorem dX11_greater_9 : decode cX11_greater 9 = .ok (.iload_n 1, 1) := by decide +kernel
theorem dX11_greater_10 : decode cX11_greater 10 = .ok (.ireturn, 1) := by decide +kernel
theorem dX11_part_0 : decode cX11_part 0 = .ok (.lload_n 0, 1) := by decide +kernel
theorem dX11_part_1 : decode cX11_part 1 = .ok (.lstore 5, 2) := by decide +kernel
theorem dX11_part_3 : decode cX11_part 3 = .ok (.lload_n 2, 1) := by decide +kernel
theorem dX11_part_4 : decode cX11_part 4 = .ok (.lstore 7, 2) := by decide +kernel
theorem dX11_part_6 : decode cX11_part 6 = .ok (.lload 7, 2) := by decide +kernel
theorem dX11_part_8 : decode cX11_part 8 = .ok (.lconst 0, 1) := by decide +kernel
theorem dX11_part_9 : decode cX11_part 9 = .ok (.lcmp, 1) := by decide +kernel
theorem dX11_part_10 : decode cX11_part 10 = .ok (.ifCond .eq 21, 3) := by decide +kernel
theorem dX11_part_13 : decode cX11_part 13 = .ok (.lload 5, 2) := by decide +kernel
theorem dX11_part_15 : decode cX11_part 15 = .ok (.lload 7, 2) := by decide +kernel
theorem dX11_part_17 : decode cX11_part 17 = .ok (.lrem, 1) := by decide +kernel
theorem dX11_part_18 : decode cX11_part 18 = .ok (.lstore 9, 2) := by decide +kernel
theorem dX11_part_20 : decode cX11_part 20 = .ok (.lload 7, 2) := by decide +kernel
theorem dX11_part_22 : decode cX11_part 22 = .ok (.lstore 5, 2) := by decide +kernel
theorem dX11_part_24 : decode cX11_part 24 = .ok (.lload 9, 2) := by decide +kernel
theorem dX11_part_26 : decode cX11_part 26 = .ok (.lstore 7, 2) := by decide +kernel
theorem dX11_part_28 : decode cX11_part 28 = .ok (.goto (-22), 3) := by decide +kernel
theorem dX11_part_31 : decode cX11_part 31 = .ok (.iload 4, 2) := by decide +kernel
theorem dX11_part_33 : decode cX11_part 33 = .ok (.ifCond .ne 7, 3) := by decide +kernel
theorem dX11_part_36 : decode cX11_part 36 = .ok (.lload_n 0, 1) := by decide +kernel
theorem dX11_part_37 : decode cX11_part 37 = .ok (.goto 4, 3) := by decide +kernel
theorem dX11_part_40 : decode cX11_part 40 = .ok (.lload_n 2, 1) := by decide +kernel
theorem dX11_part_41 : decode cX11_part 41 = .ok (.lload 5, 2) := by decide +kernel
theorem dX11_part_43 : decode cX11_part 43 = .ok (.ldiv, 1) := by decide +kernel
theorem dX11_part_44 : decode cX11_part 44 = .ok (.lreturn, 1) := by decide +kernel
theorem dX11_finds_0 : decode cX11_finds 0 = .ok (.aload_n 0, 1) := by decide +kernel
theorem dX11_finds_1 : decode cX11_finds 1 = .ok (.iload_n 1, 1) := by decide +kernel
theorem dX11_finds_2 : decode cX11_finds 2 = .ok (.putfield 85, 3) := by decide +kernel
theorem dX11_finds_5 : decode cX11_finds 5 = .ok (.bipush (-10), 2) := by decide +kernel
theorem dX11_finds_7 : decode cX11_finds 7 = .ok (.iload_n 1, 1) := by decide +kernel
theorem dX11_finds_8 : decode cX11_finds 8 = .ok (.isub, 1) := by decide +kernel
theorem dX11_finds_9 : decode cX11_finds 9 = .ok (.ireturn, 1) := by decide +kernel
theorem dX11_isSheet_0 : decode cX11_isSheet 0 = .ok (.iload_n 0, 1) := by decide +kernel
theorem dX11_isSheet_1 : decode cX11_isSheet 1 = .ok (.i2l, 1) := by decide +kernel
theorem dX11_isSheet_2 : decode cX11_isSheet 2 = .ok (.lconst 0, 1) := by decide +kernel
theorem dX11_isSheet_3 : decode cX11_isSheet 3 = .ok (.ldc2_w 89, 3) := by decide +kernel
theorem dX11_isSheet_6 : decode cX11_isSheet 6 = .ok (.invokestatic 81, 3) := by decide +kernel
theorem dX11_isSheet_9 : decode cX11_isSheet 9 = .ok (.ireturn, 1) := by decide +kernel
theorem dX11_sheet_0 : decode cX11_sheet 0 = .ok (.iload_n 1, 1) := by decide +kernel
theorem dX11_sheet_1 : decode cX11_sheet 1 = .ok (.invokestatic 91, 3) := by decide +kernel
theorem dX11_sheet_4 : decode cX11_sheet 4 = .ok (.ifCond .eq 21, 3) := by decide +kernel
theorem dX11_sheet_7 : decode cX11_sheet 7 = .ok (.iload_n 2, 1) := by decide +kernel
theorem dX11_sheet_8 : decode cX11_sheet 8 = .ok (.i2l, 1) := by decide +kernel
theorem dX11_sheet_9 : decode cX11_sheet 9 = .ok (.lconst 0, 1) := by decide +kernel
theorem dX11_sheet_10 : decode cX11_sheet 10 = .ok (.ldc2_w 95, 3) := by decide +kernel
theorem dX11_sheet_13 : decode cX11_sheet 13 = .ok (.invokestatic 81, 3) := by decide +kernel
theorem dX11_sheet_16 : decode cX11_sheet 16 = .ok (.ifCond .eq 9, 3) := by decide +kernel
theorem dX11_sheet_19 : decode cX11_sheet 19 = .ok (.iload_n 3, 1) := by decide +kernel
theorem dX11_sheet_20 : decode cX11_sheet 20 = .ok (.bipush 60, 2) := by decide +kernel
theorem dX11_sheet_22 : decode cX11_sheet 22 = .ok (.if_icmp .le 6, 3) := by decide +kernel
theorem dX11_sheet_25 : decode cX11_sheet 25 = .ok (.bipush (-2), 2) := by decide +kernel
theorem dX11_sheet_27 : decode cX11_sheet 27 = .ok (.ireturn, 1) := by decide +kernel
theorem dX11_sheet_28 : decode cX11_sheet 28 = .ok (.iload_n 3, 1) := by decide +kernel
theorem dX11_sheet_29 : decode cX11_sheet 29 = .ok (.ifCond .ge 9, 3) := by decide +kernel
theorem dX11_sheet_32 : decode cX11_sheet 32 = .ok (.aload_n 0, 1) := by decide +kernel
theorem dX11_sheet_33 : decode cX11_sheet 33 = .ok (.iconst 5, 1) := by decide +kernel
theorem dX11_sheet_34 : decode cX11_sheet 34 = .ok (.invokevirtual 97, 3) := by decide +kernel
theorem dX11_sheet_37 : decode cX11_sheet 37 = .ok (.ireturn, 1) := by decide +kernel
theorem dX11_sheet_38 : decode cX11_sheet 38 = .ok (.aload_n 0, 1) := by decide +kernel
theorem dX11_sheet_39 : decode cX11_sheet 39 = .ok (.getfield 7, 3) := by decide +kernel
theorem dX11_sheet_42 : decode cX11_sheet 42 = .ok (.iload_n 1, 1) := by decide +kernel
theorem dX11_sheet_43 : decode cX11_sheet 43 = .ok (.iload_n 2, 1) := by decide +kernel
theorem dX11_sheet_44 : decode cX11_sheet 44 = .ok (.iastore, 1) := by decide +kernel
theorem dX11_sheet_45 : decode cX11_sheet 45 = .ok (.aload_n 0, 1) := by decide +kernel
theorem dX11_sheet_46 : decode cX11_sheet 46 = .ok (.getfield 13, 3) := by decide +kernel
theorem dX11_sheet_49 : decode cX11_sheet 49 = .ok (.iload_n 1, 1) := by decide +kernel
theorem dX11_sheet_50 : decode cX11_sheet 50 = .ok (.iload_n 3, 1) := by decide +kernel
theorem dX11_sheet_51 : decode cX11_sheet 51 = .ok (.iastore, 1) := by decide +kernel
theorem dX11_sheet_52 : decode cX11_sheet 52 = .ok (.iconst 0, 1) := by decide +kernel
theorem dX11_sheet_53 : decode cX11_sheet 53 = .ok (.istore 4, 2) := by decide +kernel
theorem dX11_sheet_55 : decode cX11_sheet 55 = .ok (.iload 4, 2) := by decide +kernel
theorem dX11_sheet_57 : decode cX11_sheet 57 = .ok (.iload_n 3, 1) := by decide +kernel
theorem dX11_sheet_58 : decode cX11_sheet 58 = .ok (.if_icmp .ge 22, 3) := by decide +kernel
theorem dX11_sheet_61 : decode cX11_sheet 61 = .ok (.aload_n 0, 1) := by decide +kernel
theorem dX11_sheet_62 : decode cX11_sheet 62 = .ok (.getfield 16, 3) := by decide +kernel
theorem dX11_sheet_65 : decode cX11_sheet 65 = .ok (.bipush 60, 2) := by decide +kernel
theorem dX11_sheet_67 : decode cX11_sheet 67 = .ok (.iload_n 1, 1) := by decide +kernel
theorem dX11_sheet_68 : decode cX11_sheet 68 = .ok (.imul, 1) := by decide +kernel
theorem dX11_sheet_69 : decode cX11_sheet 69 = .ok (.iload 4, 2) := by decide +kernel
theorem dX11_sheet_71 : decode cX11_sheet 71 = .ok (.iadd, 1) := by decide +kernel
theorem dX11_sheet_72 : decode cX11_sheet 72 = .ok (.iconst 0, 1) := by decide +kernel
theorem dX11_sheet_73 : decode cX11_sheet 73 = .ok (.iastore, 1) := by decide +kernel
theorem dX11_sheet_74 : decode cX11_sheet 74 = .ok (.iinc 4 1, 3) := by decide +kernel
theorem dX11_sheet_77 : decode cX11_sheet 77 = .ok (.goto (-22), 3) := by decide +kernel
theorem dX11_sheet_80 : decode cX11_sheet 80 = .ok (.iload_n 3, 1) := by decide +kernel
theorem dX11_sheet_81 : decode cX11_sheet 81 = .ok (.ireturn, 1) := by decide +kernel
theorem dX11_lose_0 : decode cX11_lose 0 = .ok (.iload_n 1, 1) := by decide +kernel
theorem dX11_lose_1 : decode cX11_lose 1 = .ok (.invokestatic 91, 3) := by decide +kernel
theorem dX11_lose_4 : decode cX11_lose 4 = .ok (.ifCond .ne 6, 3) := by decide +kernel
theorem dX11_lose_7 : decode cX11_lose 7 = .ok (.bipush (-2), 2) := by decide +kernel
theorem dX11_lose_9 : decode cX11_lose 9 = .ok (.ireturn, 1) := by decide +kernel
theorem dX11_lose_10 : decode cX11_lose 10 = .ok (.aload_n 0, 1) := by decide +kernel
theorem dX11_lose_11 : decode cX11_lose 11 = .ok (.getfield 7, 3) := by decide +kernel
end
section
theorem dX11_lose_14 : decode cX11_lose 14 = .ok (.iload_n 1, 1) := by decide +kernel
theorem dX11_lose_15 : decode cX11_lose 15 = .ok (.iaload, 1) := by decide +kernel
theorem dX11_lose_16 : decode cX11_lose 16 = .ok (.ifCond .ge 9, 3) := by decide +kernel
theorem dX11_lose_19 : decode cX11_lose 19 = .ok (.aload_n 0, 1) := by decide +kernel
theorem dX11_lose_20 : decode cX11_lose 20 = .ok (.iconst 1, 1) := by decide +kernel
theorem dX11_lose_21 : decode cX11_lose 21 = .ok (.invokevirtual 97, 3) := by decide +kernel
theorem dX11_lose_24 : decode cX11_lose 24 = .ok (.ireturn, 1) := by decide +kernel
theorem dX11_lose_25 : decode cX11_lose 25 = .ok (.aload_n 0, 1) := by decide +kernel
theorem dX11_lose_26 : decode cX11_lose 26 = .ok (.getfield 7, 3) := by decide +kernel
theorem dX11_lose_29 : decode cX11_lose 29 = .ok (.iload_n 1, 1) := by decide +kernel
theorem dX11_lose_30 : decode cX11_lose 30 = .ok (.iconst (-1), 1) := by decide +kernel
theorem dX11_lose_31 : decode cX11_lose 31 = .ok (.iastore, 1) := by decide +kernel
theorem dX11_lose_32 : decode cX11_lose 32 = .ok (.aload_n 0, 1) := by decide +kernel
theorem dX11_lose_33 : decode cX11_lose 33 = .ok (.getfield 13, 3) := by decide +kernel
theorem dX11_lose_36 : decode cX11_lose 36 = .ok (.iload_n 1, 1) := by decide +kernel
theorem dX11_lose_37 : decode cX11_lose 37 = .ok (.iaload, 1) := by decide +kernel
theorem dX11_lose_38 : decode cX11_lose 38 = .ok (.ireturn, 1) := by decide +kernel
theorem dX11_lacks_0 : decode cX11_lacks 0 = .ok (.aload_n 0, 1) := by decide +kernel
theorem dX11_lacks_1 : decode cX11_lacks 1 = .ok (.getfield 7, 3) := by decide +kernel
theorem dX11_lacks_4 : decode cX11_lacks 4 = .ok (.iload_n 1, 1) := by decide +kernel
theorem dX11_lacks_5 : decode cX11_lacks 5 = .ok (.iaload, 1) := by decide +kernel
theorem dX11_lacks_6 : decode cX11_lacks 6 = .ok (.ifCond .ge 9, 3) := by decide +kernel
theorem dX11_lacks_9 : decode cX11_lacks 9 = .ok (.aload_n 0, 1) := by decide +kernel
theorem dX11_lacks_10 : decode cX11_lacks 10 = .ok (.iconst 1, 1) := by decide +kernel
theorem dX11_lacks_11 : decode cX11_lacks 11 = .ok (.invokevirtual 97, 3) := by decide +kernel
theorem dX11_lacks_14 : decode cX11_lacks 14 = .ok (.ireturn, 1) := by decide +kernel
theorem dX11_lacks_15 : decode cX11_lacks 15 = .ok (.aload_n 0, 1) := by decide +kernel
theorem dX11_lacks_16 : decode cX11_lacks 16 = .ok (.getfield 7, 3) := by decide +kernel
theorem dX11_lacks_19 : decode cX11_lacks 19 = .ok (.iload_n 1, 1) := by decide +kernel
theorem dX11_lacks_20 : decode cX11_lacks 20 = .ok (.iaload, 1) := by decide +kernel
theorem dX11_lacks_21 : decode cX11_lacks 21 = .ok (.iload_n 2, 1) := by decide +kernel
theorem dX11_lacks_22 : decode cX11_lacks 22 = .ok (.if_icmp .eq 9, 3) := by decide +kernel
theorem dX11_lacks_25 : decode cX11_lacks 25 = .ok (.aload_n 0, 1) := by decide +kernel
theorem dX11_lacks_26 : decode cX11_lacks 26 = .ok (.iconst 3, 1) := by decide +kernel
theorem dX11_lacks_27 : decode cX11_lacks 27 = .ok (.invokevirtual 97, 3) := by decide +kernel
theorem dX11_lacks_30 : decode cX11_lacks 30 = .ok (.ireturn, 1) := by decide +kernel
theorem dX11_lacks_31 : decode cX11_lacks 31 = .ok (.iload_n 3, 1) := by decide +kernel
theorem dX11_lacks_32 : decode cX11_lacks 32 = .ok (.i2l, 1) := by decide +kernel
theorem dX11_lacks_33 : decode cX11_lacks 33 = .ok (.lconst 0, 1) := by decide +kernel
theorem dX11_lacks_34 : decode cX11_lacks 34 = .ok (.aload_n 0, 1) := by decide +kernel
theorem dX11_lacks_35 : decode cX11_lacks 35 = .ok (.getfield 13, 3) := by decide +kernel
theorem dX11_lacks_38 : decode cX11_lacks 38 = .ok (.iload_n 1, 1) := by decide +kernel
theorem dX11_lacks_39 : decode cX11_lacks 39 = .ok (.iaload, 1) := by decide +kernel
theorem dX11_lacks_40 : decode cX11_lacks 40 = .ok (.iconst 1, 1) := by decide +kernel
theorem dX11_lacks_41 : decode cX11_lacks 41 = .ok (.isub, 1) := by decide +kernel
theorem dX11_lacks_42 : decode cX11_lacks 42 = .ok (.i2l, 1) := by decide +kernel
theorem dX11_lacks_43 : decode cX11_lacks 43 = .ok (.invokestatic 81, 3) := by decide +kernel
theorem dX11_lacks_46 : decode cX11_lacks 46 = .ok (.ifCond .eq 7, 3) := by decide +kernel
theorem dX11_lacks_49 : decode cX11_lacks 49 = .ok (.iconst 0, 1) := by decide +kernel
theorem dX11_lacks_50 : decode cX11_lacks 50 = .ok (.goto 8, 3) := by decide +kernel
theorem dX11_lacks_53 : decode cX11_lacks 53 = .ok (.aload_n 0, 1) := by decide +kernel
theorem dX11_lacks_54 : decode cX11_lacks 54 = .ok (.iconst 2, 1) := by decide +kernel
theorem dX11_lacks_55 : decode cX11_lacks 55 = .ok (.invokevirtual 97, 3) := by decide +kernel
theorem dX11_lacks_58 : decode cX11_lacks 58 = .ok (.ireturn, 1) := by decide +kernel
theorem dX11_cut_0 : decode cX11_cut 0 = .ok (.iload_n 0, 1) := by decide +kernel
theorem dX11_cut_1 : decode cX11_cut 1 = .ok (.ifCond .ne 8, 3) := by decide +kernel
theorem dX11_cut_4 : decode cX11_cut 4 = .ok (.iload_n 1, 1) := by decide +kernel
theorem dX11_cut_5 : decode cX11_cut 5 = .ok (.i2b, 1) := by decide +kernel
theorem dX11_cut_6 : decode cX11_cut 6 = .ok (.goto 14, 3) := by decide +kernel
theorem dX11_cut_9 : decode cX11_cut 9 = .ok (.iload_n 0, 1) := by decide +kernel
theorem dX11_cut_10 : decode cX11_cut 10 = .ok (.iconst 1, 1) := by decide +kernel
theorem dX11_cut_11 : decode cX11_cut 11 = .ok (.if_icmp .ne 8, 3) := by decide +kernel
theorem dX11_cut_14 : decode cX11_cut 14 = .ok (.iload_n 1, 1) := by decide +kernel
theorem dX11_cut_15 : decode cX11_cut 15 = .ok (.i2s, 1) := by decide +kernel
theorem dX11_cut_16 : decode cX11_cut 16 = .ok (.goto 4, 3) := by decide +kernel
theorem dX11_cut_19 : decode cX11_cut 19 = .ok (.iload_n 1, 1) := by decide +kernel
theorem dX11_cut_20 : decode cX11_cut 20 = .ok (.ireturn, 1) := by decide +kernel
theorem dX11_lay_0 : decode cX11_lay 0 = .ok (.iload_n 1, 1) := by decide +kernel
theorem dX11_lay_1 : decode cX11_lay 1 = .ok (.invokestatic 91, 3) := by decide +kernel
theorem dX11_lay_4 : decode cX11_lay 4 = .ok (.ifCond .eq 15, 3) := by decide +kernel
theorem dX11_lay_7 : decode cX11_lay 7 = .ok (.iload_n 2, 1) := by decide +kernel
theorem dX11_lay_8 : decode cX11_lay 8 = .ok (.i2l, 1) := by decide +kernel
theorem dX11_lay_9 : decode cX11_lay 9 = .ok (.lconst 0, 1) := by decide +kernel
theorem dX11_lay_10 : decode cX11_lay 10 = .ok (.ldc2_w 95, 3) := by decide +kernel
theorem dX11_lay_13 : decode cX11_lay 13 = .ok (.invokestatic 81, 3) := by decide +kernel
theorem dX11_lay_16 : decode cX11_lay 16 = .ok (.ifCond .ne 6, 3) := by decide +kernel
theorem dX11_lay_19 : decode cX11_lay 19 = .ok (.bipush (-2), 2) := by decide +kernel
theorem dX11_lay_21 : decode cX11_lay 21 = .ok (.ireturn, 1) := by decide +kernel
theorem dX11_lay_22 : decode cX11_lay 22 = .ok (.aload_n 0, 1) := by decide +kernel
theorem dX11_lay_23 : decode cX11_lay 23 = .ok (.iload_n 1, 1) := by decide +kernel
theorem dX11_lay_24 : decode cX11_lay 24 = .ok (.iload_n 2, 1) := by decide +kernel
theorem dX11_lay_25 : decode cX11_lay 25 = .ok (.iload_n 3, 1) := by decide +kernel
theorem dX11_lay_26 : decode cX11_lay 26 = .ok (.invokevirtual 101, 3) := by decide +kernel
theorem dX11_lay_29 : decode cX11_lay 29 = .ok (.istore 5, 2) := by decide +kernel
theorem dX11_lay_31 : decode cX11_lay 31 = .ok (.iload 5, 2) := by decide +kernel
theorem dX11_lay_33 : decode cX11_lay 33 = .ok (.ifCond .eq 6, 3) := by decide +kernel
theorem dX11_lay_36 : decode cX11_lay 36 = .ok (.iload 5, 2) := by decide +kernel
theorem dX11_lay_38 : decode cX11_lay 38 = .ok (.ireturn, 1) := by decide +kernel
theorem dX11_lay_39 : decode cX11_lay 39 = .ok (.aload_n 0, 1) := by decide +kernel
theorem dX11_lay_40 : decode cX11_lay 40 = .ok (.getfield 16, 3) := by decide +kernel
theorem dX11_lay_43 : decode cX11_lay 43 = .ok (.bipush 60, 2) := by decide +kernel
theorem dX11_lay_45 : decode cX11_lay 45 = .ok (.iload_n 1, 1) := by decide +kernel
theorem dX11_lay_46 : decode cX11_lay 46 = .ok (.imul, 1) := by decide +kernel
theorem dX11_lay_47 : decode cX11_lay 47 = .ok (.iload_n 3, 1) := by decide +kernel
theorem dX11_lay_48 : decode cX11_lay 48 = .ok (.iadd, 1) := by decide +kernel
theorem dX11_lay_49 : decode cX11_lay 49 = .ok (.iload_n 2, 1) := by decide +kernel
theorem dX11_lay_50 : decode cX11_lay 50 = .ok (.iload 4, 2) := by decide +kernel
theorem dX11_lay_52 : decode cX11_lay 52 = .ok (.invokestatic 105, 3) := by decide +kernel
theorem dX11_lay_55 : decode cX11_lay 55 = .ok (.iastore, 1) := by decide +kernel
theorem dX11_lay_56 : decode cX11_lay 56 = .ok (.iconst 1, 1) := by decide +kernel
theorem dX11_lay_57 : decode cX11_lay 57 = .ok (.ireturn, 1) := by decide +kernel
theorem dX11_get_0 : decode cX11_get 0 = .ok (.iload_n 1, 1) := by decide +kernel
theorem dX11_get_1 : decode cX11_get 1 = .ok (.invokestatic 91, 3) := by decide +kernel
theorem dX11_get_4 : decode cX11_get 4 = .ok (.ifCond .eq 25, 3) := by decide +kernel
theorem dX11_get_7 : decode cX11_get 7 = .ok (.iload_n 2, 1) := by decide +kernel
theorem dX11_get_8 : decode cX11_get 8 = .ok (.i2l, 1) := by decide +kernel
theorem dX11_get_9 : decode cX11_get 9 = .ok (.lconst 0, 1) := by decide +kernel
theorem dX11_get_10 : decode cX11_get 10 = .ok (.ldc2_w 95, 3) := by decide +kernel
theorem dX11_get_13 : decode cX11_get 13 = .ok (.invokestatic 81, 3) := by decide +kernel
theorem dX11_get_16 : decode cX11_get 16 = .ok (.ifCond .eq 13, 3) := by decide +kernel
theorem dX11_get_19 : decode cX11_get 19 = .ok (.aload_n 0, 1) := by decide +kernel
theorem dX11_get_20 : decode cX11_get 20 = .ok (.iload_n 1, 1) := by decide +kernel
theorem dX11_get_21 : decode cX11_get 21 = .ok (.iload_n 2, 1) := by decide +kernel
theorem dX11_get_22 : decode cX11_get 22 = .ok (.iload_n 3, 1) := by decide +kernel
theorem dX11_get_23 : decode cX11_get 23 = .ok (.invokevirtual 101, 3) := by decide +kernel
theorem dX11_get_26 : decode cX11_get 26 = .ok (.ifCond .eq 6, 3) := by decide +kernel
theorem dX11_get_29 : decode cX11_get 29 = .ok (.ldc 109, 2) := by decide +kernel
theorem dX11_get_31 : decode cX11_get 31 = .ok (.ireturn, 1) := by decide +kernel
theorem dX11_get_32 : decode cX11_get 32 = .ok (.aload_n 0, 1) := by decide +kernel
theorem dX11_get_33 : decode cX11_get 33 = .ok (.getfield 16, 3) := by decide +kernel
theorem dX11_get_36 : decode cX11_get 36 = .ok (.bipush 60, 2) := by decide +kernel
theorem dX11_get_38 : decode cX11_get 38 = .ok (.iload_n 1, 1) := by decide +kernel
theorem dX11_get_39 : decode cX11_get 39 = .ok (.imul, 1) := by decide +kernel
theorem dX11_get_40 : decode cX11_get 40 = .ok (.iload_n 3, 1) := by decide +kernel
theorem dX11_get_41 : decode cX11_get 41 = .ok (.iadd, 1) := by decide +kernel
theorem dX11_get_42 : decode cX11_get 42 = .ok (.iaload, 1) := by decide +kernel
theorem dX11_get_43 : decode cX11_get 43 = .ok (.ireturn, 1) := by decide +kernel
theorem dX11_copy_0 : decode cX11_copy 0 = .ok (.iload_n 1, 1) := by decide +kernel
theorem dX11_copy_1 : decode cX11_copy 1 = .ok (.invokestatic 91, 3) := by decide +kernel
theorem dX11_copy_4 : decode cX11_copy 4 = .ok (.ifCond .eq 10, 3) := by decide +kernel
theorem dX11_copy_7 : decode cX11_copy 7 = .ok (.iload_n 3, 1) := by decide +kernel
theorem dX11_copy_8 : decode cX11_copy 8 = .ok (.invokestatic 91, 3) := by decide +kernel
theorem dX11_copy_11 : decode cX11_copy 11 = .ok (.ifCond .ne 6, 3) := by decide +kernel
theorem dX11_copy_14 : decode cX11_copy 14 = .ok (.bipush (-2), 2) := by decide +kernel
theorem dX11_copy_16 : decode cX11_copy 16 = .ok (.ireturn, 1) := by decide +kernel
theorem dX11_copy_17 : decode cX11_copy 17 = .ok (.aload_n 0, 1) := by decide +kernel
theorem dX11_copy_18 : decode cX11_copy 18 = .ok (.getfield 7, 3) := by decide +kernel
theorem dX11_copy_21 : decode cX11_copy 21 = .ok (.iload_n 1, 1) := by decide +kernel
theorem dX11_copy_22 : decode cX11_copy 22 = .ok (.iaload, 1) := by decide +kernel
theorem dX11_copy_23 : decode cX11_copy 23 = .ok (.ifCond .lt 12, 3) := by decide +kernel
theorem dX11_copy_26 : decode cX11_copy 26 = .ok (.aload_n 0, 1) := by decide +kernel
theorem dX11_copy_27 : decode cX11_copy 27 = .ok (.getfield 7, 3) := by decide +kernel
theorem dX11_copy_30 : decode cX11_copy 30 = .ok (.iload_n 3, 1) := by decide +kernel
theorem dX11_copy_31 : decode cX11_copy 31 = .ok (.iaload, 1) := by decide +kernel
theorem dX11_copy_32 : decode cX11_copy 32 = .ok (.ifCond .ge 9, 3) := by decide +kernel
theorem dX11_copy_35 : decode cX11_copy 35 = .ok (.aload_n 0, 1) := by decide +kernel
theorem dX11_copy_36 : decode cX11_copy 36 = .ok (.iconst 1, 1) := by decide +kernel
theorem dX11_copy_37 : decode cX11_copy 37 = .ok (.invokevirtual 97, 3) := by decide +kernel
theorem dX11_copy_40 : decode cX11_copy 40 = .ok (.ireturn, 1) := by decide +kernel
theorem dX11_copy_41 : decode cX11_copy 41 = .ok (.aload_n 0, 1) := by decide +kernel
theorem dX11_copy_42 : decode cX11_copy 42 = .ok (.getfield 7, 3) := by decide +kernel
theorem dX11_copy_45 : decode cX11_copy 45 = .ok (.iload_n 1, 1) := by decide +kernel
theorem dX11_copy_46 : decode cX11_copy 46 = .ok (.iaload, 1) := by decide +kernel
theorem dX11_copy_47 : decode cX11_copy 47 = .ok (.aload_n 0, 1) := by decide +kernel
theorem dX11_copy_48 : decode cX11_copy 48 = .ok (.getfield 7, 3) := by decide +kernel
theorem dX11_copy_51 : decode cX11_copy 51 = .ok (.iload_n 3, 1) := by decide +kernel
theorem dX11_copy_52 : decode cX11_copy 52 = .ok (.iaload, 1) := by decide +kernel
theorem dX11_copy_53 : decode cX11_copy 53 = .ok (.if_icmp .eq 9, 3) := by decide +kernel
theorem dX11_copy_56 : decode cX11_copy 56 = .ok (.aload_n 0, 1) := by decide +kernel
theorem dX11_copy_57 : decode cX11_copy 57 = .ok (.iconst 4, 1) := by decide +kernel
theorem dX11_copy_58 : decode cX11_copy 58 = .ok (.invokevirtual 97, 3) := by decide +kernel
theorem dX11_copy_61 : decode cX11_copy 61 = .ok (.ireturn, 1) := by decide +kernel
theorem dX11_copy_62 : decode cX11_copy 62 = .ok (.iload_n 2, 1) := by decide +kernel
theorem dX11_copy_63 : decode cX11_copy 63 = .ok (.ifCond .lt 48, 3) := by decide +kernel
theorem dX11_copy_66 : decode cX11_copy 66 = .ok (.iload 4, 2) := by decide +kernel
theorem dX11_copy_68 : decode cX11_copy 68 = .ok (.ifCond .lt 43, 3) := by decide +kernel
theorem dX11_copy_71 : decode cX11_copy 71 = .ok (.iload 5, 2) := by decide +kernel
theorem dX11_copy_73 : decode cX11_copy 73 = .ok (.ifCond .lt 38, 3) := by decide +kernel
theorem dX11_copy_76 : decode cX11_copy 76 = .ok (.iload_n 2, 1) := by decide +kernel
theorem dX11_copy_77 : decode cX11_copy 77 = .ok (.i2l, 1) := by decide +kernel
theorem dX11_copy_78 : decode cX11_copy 78 = .ok (.iload 5, 2) := by decide +kernel
theorem dX11_copy_80 : decode cX11_copy 80 = .ok (.i2l, 1) := by decide +kernel
theorem dX11_copy_81 : decode cX11_copy 81 = .ok (.ladd, 1) := by decide +kernel
theorem dX11_copy_82 : decode cX11_copy 82 = .ok (.aload_n 0, 1) := by decide +kernel
theorem dX11_copy_83 : decode cX11_copy 83 = .ok (.getfield 13, 3) := by decide +kernel
theorem dX11_copy_86 : decode cX11_copy 86 = .ok (.iload_n 1, 1) := by decide +kernel
theorem dX11_copy_87 : decode cX11_copy 87 = .ok (.iaload, 1) := by decide +kernel
theorem dX11_copy_88 : decode cX11_copy 88 = .ok (.i2l, 1) := by decide +kernel
theorem dX11_copy_89 : decode cX11_copy 89 = .ok (.lcmp, 1) := by decide +kernel
theorem dX11_copy_90 : decode cX11_copy 90 = .ok (.ifCond .gt 21, 3) := by decide +kernel
theorem dX11_copy_93 : decode cX11_copy 93 = .ok (.iload 4, 2) := by decide +kernel
theorem dX11_copy_95 : decode cX11_copy 95 = .ok (.i2l, 1) := by decide +kernel
theorem dX11_copy_96 : decode cX11_copy 96 = .ok (.iload 5, 2) := by decide +kernel
theorem dX11_copy_98 : decode cX11_copy 98 = .ok (.i2l, 1) := by decide +kernel
theorem dX11_copy_99 : decode cX11_copy 99 = .ok (.ladd, 1) := by decide +kernel
theorem dX11_copy_100 : decode cX11_copy 100 = .ok (.aload_n 0, 1) := by decide +kernel
theorem dX11_copy_101 : decode cX11_copy 101 = .ok (.getfield 13, 3) := by decide +kernel
theorem dX11_copy_104 : decode cX11_copy 104 = .ok (.iload_n 3, 1) := by decide +kernel
theorem dX11_copy_105 : decode cX11_copy 105 = .ok (.iaload, 1) := by decide +kernel
theorem dX11_copy_106 : decode cX11_copy 106 = .ok (.i2l, 1) := by decide +kernel
theorem dX11_copy_107 : decode cX11_copy 107 = .ok (.lcmp, 1) := by decide +kernel
theorem dX11_copy_108 : decode cX11_copy 108 = .ok (.ifCond .le 9, 3) := by decide +kernel
theorem dX11_copy_111 : decode cX11_copy 111 = .ok (.aload_n 0, 1) := by decide +kernel
theorem dX11_copy_112 : decode cX11_copy 112 = .ok (.iconst 2, 1) := by decide +kernel
theorem dX11_copy_113 : decode cX11_copy 113 = .ok (.invokevirtual 97, 3) := by decide +kernel
theorem dX11_copy_116 : decode cX11_copy 116 = .ok (.ireturn, 1) := by decide +kernel
theorem dX11_copy_117 : decode cX11_copy 117 = .ok (.iconst 0, 1) := by decide +kernel
theorem dX11_copy_118 : decode cX11_copy 118 = .ok (.istore 6, 2) := by decide +kernel
theorem dX11_copy_120 : decode cX11_copy 120 = .ok (.iload 6, 2) := by decide +kernel
theorem dX11_copy_122 : decode cX11_copy 122 = .ok (.iload 5, 2) := by decide +kernel
theorem dX11_copy_124 : decode cX11_copy 124 = .ok (.if_icmp .ge 30, 3) := by decide +kernel
theorem dX11_copy_127 : decode cX11_copy 127 = .ok (.aload_n 0, 1) := by decide +kernel
theorem dX11_copy_128 : decode cX11_copy 128 = .ok (.getfield 19, 3) := by decide +kernel
theorem dX11_copy_131 : decode cX11_copy 131 = .ok (.iload 6, 2) := by decide +kernel
theorem dX11_copy_133 : decode cX11_copy 133 = .ok (.aload_n 0, 1) := by decide +kernel
theorem dX11_copy_134 : decode cX11_copy 134 = .ok (.getfield 16, 3) := by decide +kernel
theorem dX11_copy_137 : decode cX11_copy 137 = .ok (.bipush 60, 2) := by decide +kernel
theorem dX11_copy_139 : decode cX11_copy 139 = .ok (.iload_n 1, 1) := by decide +kernel
theorem dX11_copy_140 : decode cX11_copy 140 = .ok (.imul, 1) := by decide +kernel
theorem dX11_copy_141 : decode cX11_copy 141 = .ok (.iload_n 2, 1) := by decide +kernel
theorem dX11_copy_142 : decode cX11_copy 142 = .ok (.iadd, 1) := by decide +kernel
theorem dX11_copy_143 : decode cX11_copy 143 = .ok (.iload 6, 2) := by decide +kernel
theorem dX11_copy_145 : decode cX11_copy 145 = .ok (.iadd, 1) := by decide +kernel
theorem dX11_copy_146 : decode cX11_copy 146 = .ok (.iaload, 1) := by decide +kernel
theorem dX11_copy_147 : decode cX11_copy 147 = .ok (.iastore, 1) := by decide +kernel
theorem dX11_copy_148 : decode cX11_copy 148 = .ok (.iinc 6 1, 3) := by decide +kernel
theorem dX11_copy_151 : decode cX11_copy 151 = .ok (.goto (-31), 3) := by decide +kernel
theorem dX11_copy_154 : decode cX11_copy 154 = .ok (.iconst 0, 1) := by decide +kernel
theorem dX11_copy_155 : decode cX11_copy 155 = .ok (.istore 6, 2) := by decide +kernel
theorem dX11_copy_157 : decode cX11_copy 157 = .ok (.iload 6, 2) := by decide +kernel
theorem dX11_copy_159 : decode cX11_copy 159 = .ok (.iload 5, 2) := by decide +kernel
theorem dX11_copy_161 : decode cX11_copy 161 = .ok (.if_icmp .ge 31, 3) := by decide +kernel
theorem dX11_copy_164 : decode cX11_copy 164 = .ok (.aload_n 0, 1) := by decide +kernel
theorem dX11_copy_165 : decode cX11_copy 165 = .ok (.getfield 16, 3) := by decide +kernel
theorem dX11_copy_168 : decode cX11_copy 168 = .ok (.bipush 60, 2) := by decide +kernel
theorem dX11_copy_170 : decode cX11_copy 170 = .ok (.iload_n 3, 1) := by decide +kernel
theorem dX11_copy_171 : decode cX11_copy 171 = .ok (.imul, 1) := by decide +kernel
theorem dX11_copy_172 : decode cX11_copy 172 = .ok (.iload 4, 2) := by decide +kernel
theorem dX11_copy_174 : decode cX11_copy 174 = .ok (.iadd, 1) := by decide +kernel
theorem dX11_copy_175 : decode cX11_copy 175 = .ok (.iload 6, 2) := by decide +kernel
theorem dX11_copy_177 : decode cX11_copy 177 = .ok (.iadd, 1) := by decide +kernel
theorem dX11_copy_178 : decode cX11_copy 178 = .ok (.aload_n 0, 1) := by decide +kernel
theorem dX11_copy_179 : decode cX11_copy 179 = .ok (.getfield 19, 3) := by decide +kernel
theorem dX11_copy_182 : decode cX11_copy 182 = .ok (.iload 6, 2) := by decide +kernel
theorem dX11_copy_184 : decode cX11_copy 184 = .ok (.iaload, 1) := by decide +kernel
theorem dX11_copy_185 : decode cX11_copy 185 = .ok (.iastore, 1) := by decide +kernel
theorem dX11_copy_186 : decode cX11_copy 186 = .ok (.iinc 6 1, 3) := by decide +kernel
theorem dX11_copy_189 : decode cX11_copy 189 = .ok (.goto (-32), 3) := by decide +kernel
theorem dX11_copy_192 : decode cX11_copy 192 = .ok (.iconst 1, 1) := by decide +kernel
theorem dX11_copy_193 : decode cX11_copy 193 = .ok (.ireturn, 1) := by decide +kernel
theorem dX11_type_0 : decode cX11_type 0 = .ok (.iload_n 1, 1) := by decide +kernel
theorem dX11_type_1 : decode cX11_type 1 = .ok (.invokestatic 110, 3) := by decide +kernel
theorem dX11_type_4 : decode cX11_type 4 = .ok (.ifCond .eq 15, 3) := by decide +kernel
theorem dX11_type_7 : decode cX11_type 7 = .ok (.iload_n 2, 1) := by decide +kernel
theorem dX11_type_8 : decode cX11_type 8 = .ok (.i2l, 1) := by decide +kernel
theorem dX11_type_9 : decode cX11_type 9 = .ok (.lconst 0, 1) := by decide +kernel
theorem dX11_type_10 : decode cX11_type 10 = .ok (.ldc2_w 113, 3) := by decide +kernel
theorem dX11_type_13 : decode cX11_type 13 = .ok (.invokestatic 81, 3) := by decide +kernel
theorem dX11_type_16 : decode cX11_type 16 = .ok (.ifCond .ne 6, 3) := by decide +kernel
theorem dX11_type_19 : decode cX11_type 19 = .ok (.bipush (-2), 2) := by decide +kernel
theorem dX11_type_21 : decode cX11_type 21 = .ok (.ireturn, 1) := by decide +kernel
theorem dX11_type_22 : decode cX11_type 22 = .ok (.aload_n 0, 1) := by decide +kernel
theorem dX11_type_23 : decode cX11_type 23 = .ok (.getfield 25, 3) := by decide +kernel
theorem dX11_type_26 : decode cX11_type 26 = .ok (.iload_n 1, 1) := by decide +kernel
theorem dX11_type_27 : decode cX11_type 27 = .ok (.iaload, 1) := by decide +kernel
theorem dX11_type_28 : decode cX11_type 28 = .ok (.iload_n 1, 1) := by decide +kernel
theorem dX11_type_29 : decode cX11_type 29 = .ok (.ifCond .ne 8, 3) := by decide +kernel
theorem dX11_type_32 : decode cX11_type 32 = .ok (.bipush 49, 2) := by decide +kernel
theorem dX11_type_34 : decode cX11_type 34 = .ok (.goto 5, 3) := by decide +kernel
theorem dX11_type_37 : decode cX11_type 37 = .ok (.bipush 55, 2) := by decide +kernel
theorem dX11_type_39 : decode cX11_type 39 = .ok (.if_icmp .ne 6, 3) := by decide +kernel
theorem dX11_type_42 : decode cX11_type 42 = .ok (.bipush (-4), 2) := by decide +kernel
theorem dX11_type_44 : decode cX11_type 44 = .ok (.ireturn, 1) := by decide +kernel
theorem dX11_type_45 : decode cX11_type 45 = .ok (.aload_n 0, 1) := by decide +kernel
theorem dX11_type_46 : decode cX11_type 46 = .ok (.getfield 22, 3) := by decide +kernel
theorem dX11_type_49 : decode cX11_type 49 = .ok (.bipush 56, 2) := by decide +kernel
theorem dX11_type_51 : decode cX11_type 51 = .ok (.iload_n 1, 1) := by decide +kernel
theorem dX11_type_52 : decode cX11_type 52 = .ok (.imul, 1) := by decide +kernel
theorem dX11_type_53 : decode cX11_type 53 = .ok (.aload_n 0, 1) := by decide +kernel
theorem dX11_type_54 : decode cX11_type 54 = .ok (.getfield 25, 3) := by decide +kernel
theorem dX11_type_57 : decode cX11_type 57 = .ok (.iload_n 1, 1) := by decide +kernel
theorem dX11_type_58 : decode cX11_type 58 = .ok (.iaload, 1) := by decide +kernel
theorem dX11_type_59 : decode cX11_type 59 = .ok (.iadd, 1) := by decide +kernel
theorem dX11_type_60 : decode cX11_type 60 = .ok (.iload_n 2, 1) := by decide +kernel
theorem dX11_type_61 : decode cX11_type 61 = .ok (.iastore, 1) := by decide +kernel
theorem dX11_type_62 : decode cX11_type 62 = .ok (.aload_n 0, 1) := by decide +kernel
theorem dX11_type_63 : decode cX11_type 63 = .ok (.getfield 25, 3) := by decide +kernel
theorem dX11_type_66 : decode cX11_type 66 = .ok (.iload_n 1, 1) := by decide +kernel
theorem dX11_type_67 : decode cX11_type 67 = .ok (.dup2, 1) := by decide +kernel
theorem dX11_type_68 : decode cX11_type 68 = .ok (.iaload, 1) := by decide +kernel
theorem dX11_type_69 : decode cX11_type 69 = .ok (.iconst 1, 1) := by decide +kernel
theorem dX11_type_70 : decode cX11_type 70 = .ok (.iadd, 1) := by decide +kernel
theorem dX11_type_71 : decode cX11_type 71 = .ok (.iastore, 1) := by decide +kernel
theorem dX11_type_72 : decode cX11_type 72 = .ok (.aload_n 0, 1) := by decide +kernel
theorem dX11_type_73 : decode cX11_type 73 = .ok (.getfield 25, 3) := by decide +kernel
theorem dX11_type_76 : decode cX11_type 76 = .ok (.iload_n 1, 1) := by decide +kernel
theorem dX11_type_77 : decode cX11_type 77 = .ok (.iaload, 1) := by decide +kernel
theorem dX11_type_78 : decode cX11_type 78 = .ok (.ireturn, 1) := by decide +kernel
theorem dX11_wipe_0 : decode cX11_wipe 0 = .ok (.iload_n 1, 1) := by decide +kernel
theorem dX11_wipe_1 : decode cX11_wipe 1 = .ok (.invokestatic 110, 3) := by decide +kernel
theorem dX11_wipe_4 : decode cX11_wipe 4 = .ok (.ifCond .ne 6, 3) := by decide +kernel
theorem dX11_wipe_7 : decode cX11_wipe 7 = .ok (.bipush (-2), 2) := by decide +kernel
theorem dX11_wipe_9 : decode cX11_wipe 9 = .ok (.ireturn, 1) := by decide +kernel
theorem dX11_wipe_10 : decode cX11_wipe 10 = .ok (.aload_n 0, 1) := by decide +kernel
theorem dX11_wipe_11 : decode cX11_wipe 11 = .ok (.getfield 25, 3) := by decide +kernel
theorem dX11_wipe_14 : decode cX11_wipe 14 = .ok (.iload_n 1, 1) := by decide +kernel
theorem dX11_wipe_15 : decode cX11_wipe 15 = .ok (.iaload, 1) := by decide +kernel
theorem dX11_wipe_16 : decode cX11_wipe 16 = .ok (.istore_n 2, 1) := by decide +kernel
theorem dX11_wipe_17 : decode cX11_wipe 17 = .ok (.aload_n 0, 1) := by decide +kernel
theorem dX11_wipe_18 : decode cX11_wipe 18 = .ok (.getfield 25, 3) := by decide +kernel
theorem dX11_wipe_21 : decode cX11_wipe 21 = .ok (.iload_n 1, 1) := by decide +kernel
theorem dX11_wipe_22 : decode cX11_wipe 22 = .ok (.iconst 0, 1) := by decide +kernel
theorem dX11_wipe_23 : decode cX11_wipe 23 = .ok (.iastore, 1) := by decide +kernel
theorem dX11_wipe_24 : decode cX11_wipe 24 = .ok (.iload_n 2, 1) := by decide +kernel
theorem dX11_wipe_25 : decode cX11_wipe 25 = .ok (.ireturn, 1) := by decide +kernel
theorem dX11_undo_0 : decode cX11_undo 0 = .ok (.iload_n 1, 1) := by decide +kernel
theorem dX11_undo_1 : decode cX11_undo 1 = .ok (.invokestatic 110, 3) := by decide +kernel
theorem dX11_undo_4 : decode cX11_undo 4 = .ok (.ifCond .ne 6, 3) := by decide +kernel
theorem dX11_undo_7 : decode cX11_undo 7 = .ok (.bipush (-2), 2) := by decide +kernel
theorem dX11_undo_9 : decode cX11_undo 9 = .ok (.ireturn, 1) := by decide +kernel
theorem dX11_undo_10 : decode cX11_undo 10 = .ok (.aload_n 0, 1) := by decide +kernel
theorem dX11_undo_11 : decode cX11_undo 11 = .ok (.getfield 25, 3) := by decide +kernel
theorem dX11_undo_14 : decode cX11_undo 14 = .ok (.iload_n 1, 1) := by decide +kernel
theorem dX11_undo_15 : decode cX11_undo 15 = .ok (.iaload, 1) := by decide +kernel
theorem dX11_undo_16 : decode cX11_undo 16 = .ok (.ifCond .ne 6, 3) := by decide +kernel
theorem dX11_undo_19 : decode cX11_undo 19 = .ok (.bipush (-3), 2) := by decide +kernel
theorem dX11_undo_21 : decode cX11_undo 21 = .ok (.ireturn, 1) := by decide +kernel
theorem dX11_undo_22 : decode cX11_undo 22 = .ok (.aload_n 0, 1) := by decide +kernel
theorem dX11_undo_23 : decode cX11_undo 23 = .ok (.getfield 25, 3) := by decide +kernel
theorem dX11_undo_26 : decode cX11_undo 26 = .ok (.iload_n 1, 1) := by decide +kernel
theorem dX11_undo_27 : decode cX11_undo 27 = .ok (.dup2, 1) := by decide +kernel
theorem dX11_undo_28 : decode cX11_undo 28 = .ok (.iaload, 1) := by decide +kernel
theorem dX11_undo_29 : decode cX11_undo 29 = .ok (.iconst 1, 1) := by decide +kernel
theorem dX11_undo_30 : decode cX11_undo 30 = .ok (.isub, 1) := by decide +kernel
theorem dX11_undo_31 : decode cX11_undo 31 = .ok (.iastore, 1) := by decide +kernel
theorem dX11_undo_32 : decode cX11_undo 32 = .ok (.aload_n 0, 1) := by decide +kernel
theorem dX11_undo_33 : decode cX11_undo 33 = .ok (.getfield 25, 3) := by decide +kernel
theorem dX11_undo_36 : decode cX11_undo 36 = .ok (.iload_n 1, 1) := by decide +kernel
theorem dX11_undo_37 : decode cX11_undo 37 = .ok (.iaload, 1) := by decide +kernel
theorem dX11_undo_38 : decode cX11_undo 38 = .ok (.ireturn, 1) := by decide +kernel
theorem dX11_placeOf_0 : decode cX11_placeOf 0 = .ok (.iload_n 0, 1) := by decide +kernel
theorem dX11_placeOf_1 : decode cX11_placeOf 1 = .ok (.i2l, 1) := by decide +kernel
theorem dX11_placeOf_2 : decode cX11_placeOf 2 = .ok (.ldc2_w 115, 3) := by decide +kernel
theorem dX11_placeOf_5 : decode cX11_placeOf 5 = .ok (.ldc2_w 117, 3) := by decide +kernel
theorem dX11_placeOf_8 : decode cX11_placeOf 8 = .ok (.invokestatic 81, 3) := by decide +kernel
theorem dX11_placeOf_11 : decode cX11_placeOf 11 = .ok (.ifCond .eq 10, 3) := by decide +kernel
theorem dX11_placeOf_14 : decode cX11_placeOf 14 = .ok (.iload_n 0, 1) := by decide +kernel
theorem dX11_placeOf_15 : decode cX11_placeOf 15 = .ok (.bipush 97, 2) := by decide +kernel
theorem dX11_placeOf_17 : decode cX11_placeOf 17 = .ok (.isub, 1) := by decide +kernel
theorem dX11_placeOf_18 : decode cX11_placeOf 18 = .ok (.goto 5, 3) := by decide +kernel
theorem dX11_placeOf_21 : decode cX11_placeOf 21 = .ok (.bipush (-9), 2) := by decide +kernel
theorem dX11_placeOf_23 : decode cX11_placeOf 23 = .ok (.ireturn, 1) := by decide +kernel
theorem dX11_figureOf_0 : decode cX11_figureOf 0 = .ok (.iload_n 0, 1) := by decide +kernel
theorem dX11_figureOf_1 : decode cX11_figureOf 1 = .ok (.i2l, 1) := by decide +kernel
theorem dX11_figureOf_2 : decode cX11_figureOf 2 = .ok (.bipush 48, 2) := by decide +kernel
theorem dX11_figureOf_4 : decode cX11_figureOf 4 = .ok (.iload_n 1, 1) := by decide +kernel
theorem dX11_figureOf_5 : decode cX11_figureOf 5 = .ok (.iadd, 1) := by decide +kernel
theorem dX11_figureOf_6 : decode cX11_figureOf 6 = .ok (.i2l, 1) := by decide +kernel
theorem dX11_figureOf_7 : decode cX11_figureOf 7 = .ok (.ldc2_w 119, 3) := by decide +kernel
theorem dX11_figureOf_10 : decode cX11_figureOf 10 = .ok (.invokestatic 81, 3) := by decide +kernel
theorem dX11_figureOf_13 : decode cX11_figureOf 13 = .ok (.ifCond .eq 10, 3) := by decide +kernel
theorem dX11_figureOf_16 : decode cX11_figureOf 16 = .ok (.iload_n 0, 1) := by decide +kernel
theorem dX11_figureOf_17 : decode cX11_figureOf 17 = .ok (.bipush 48, 2) := by decide +kernel
theorem dX11_figureOf_19 : decode cX11_figureOf 19 = .ok (.isub, 1) := by decide +kernel
theorem dX11_figureOf_20 : decode cX11_figureOf 20 = .ok (.goto 5, 3) := by decide +kernel
theorem dX11_figureOf_23 : decode cX11_figureOf 23 = .ok (.bipush (-9), 2) := by decide +kernel
theorem dX11_figureOf_25 : decode cX11_figureOf 25 = .ok (.ireturn, 1) := by decide +kernel
theorem dX11_wayOf_0 : decode cX11_wayOf 0 = .ok (.iload_n 0, 1) := by decide +kernel
theorem dX11_wayOf_1 : decode cX11_wayOf 1 = .ok (.tableswitch 93 0 3 #[31, 36, 54, 60], 31) := by decide +kernel
theorem dX11_wayOf_32 : decode cX11_wayOf 32 = .ok (.iload_n 1, 1) := by decide +kernel
theorem dX11_wayOf_33 : decode cX11_wayOf 33 = .ok (.invokestatic 121, 3) := by decide +kernel
theorem dX11_wayOf_36 : decode cX11_wayOf 36 = .ok (.ireturn, 1) := by decide +kernel
theorem dX11_wayOf_37 : decode cX11_wayOf 37 = .ok (.iload_n 1, 1) := by decide +kernel
theorem dX11_wayOf_38 : decode cX11_wayOf 38 = .ok (.invokestatic 121, 3) := by decide +kernel
theorem dX11_wayOf_41 : decode cX11_wayOf 41 = .ok (.iload_n 2, 1) := by decide +kernel
theorem dX11_wayOf_42 : decode cX11_wayOf 42 = .ok (.if_icmp .ne 8, 3) := by decide +kernel
theorem dX11_wayOf_45 : decode cX11_wayOf 45 = .ok (.bipush (-9), 2) := by decide +kernel
theorem dX11_wayOf_47 : decode cX11_wayOf 47 = .ok (.goto 7, 3) := by decide +kernel
theorem dX11_wayOf_50 : decode cX11_wayOf 50 = .ok (.iload_n 1, 1) := by decide +kernel
theorem dX11_wayOf_51 : decode cX11_wayOf 51 = .ok (.invokestatic 121, 3) := by decide +kernel
theorem dX11_wayOf_54 : decode cX11_wayOf 54 = .ok (.ireturn, 1) := by decide +kernel
theorem dX11_wayOf_55 : decode cX11_wayOf 55 = .ok (.iload_n 1, 1) := by decide +kernel
theorem dX11_wayOf_56 : decode cX11_wayOf 56 = .ok (.iconst 1, 1) := by decide +kernel
theorem dX11_wayOf_57 : decode cX11_wayOf 57 = .ok (.invokestatic 124, 3) := by decide +kernel
theorem dX11_wayOf_60 : decode cX11_wayOf 60 = .ok (.ireturn, 1) := by decide +kernel
theorem dX11_wayOf_61 : decode cX11_wayOf 61 = .ok (.iload_n 1, 1) := by decide +kernel
theorem dX11_wayOf_62 : decode cX11_wayOf 62 = .ok (.bipush 117, 2) := by decide +kernel
theorem dX11_wayOf_64 : decode cX11_wayOf 64 = .ok (.if_icmp .ne 7, 3) := by decide +kernel
theorem dX11_wayOf_67 : decode cX11_wayOf 67 = .ok (.iconst 0, 1) := by decide +kernel
theorem dX11_wayOf_68 : decode cX11_wayOf 68 = .ok (.goto 25, 3) := by decide +kernel
theorem dX11_wayOf_71 : decode cX11_wayOf 71 = .ok (.iload_n 1, 1) := by decide +kernel
theorem dX11_wayOf_72 : decode cX11_wayOf 72 = .ok (.bipush 102, 2) := by decide +kernel
theorem dX11_wayOf_74 : decode cX11_wayOf 74 = .ok (.if_icmp .ne 7, 3) := by decide +kernel
theorem dX11_wayOf_77 : decode cX11_wayOf 77 = .ok (.iconst 1, 1) := by decide +kernel
theorem dX11_wayOf_78 : decode cX11_wayOf 78 = .ok (.goto 15, 3) := by decide +kernel
theorem dX11_wayOf_81 : decode cX11_wayOf 81 = .ok (.iload_n 1, 1) := by decide +kernel
theorem dX11_wayOf_82 : decode cX11_wayOf 82 = .ok (.bipush 100, 2) := by decide +kernel
theorem dX11_wayOf_84 : decode cX11_wayOf 84 = .ok (.if_icmp .ne 7, 3) := by decide +kernel
theorem dX11_wayOf_87 : decode cX11_wayOf 87 = .ok (.iconst 2, 1) := by decide +kernel
theorem dX11_wayOf_88 : decode cX11_wayOf 88 = .ok (.goto 5, 3) := by decide +kernel
theorem dX11_wayOf_91 : decode cX11_wayOf 91 = .ok (.bipush (-9), 2) := by decide +kernel
theorem dX11_wayOf_93 : decode cX11_wayOf 93 = .ok (.ireturn, 1) := by decide +kernel
theorem dX11_wayOf_94 : decode cX11_wayOf 94 = .ok (.iload_n 1, 1) := by decide +kernel
theorem dX11_wayOf_95 : decode cX11_wayOf 95 = .ok (.bipush 59, 2) := by decide +kernel
theorem dX11_wayOf_97 : decode cX11_wayOf 97 = .ok (.if_icmp .ne 7, 3) := by decide +kernel
theorem dX11_wayOf_100 : decode cX11_wayOf 100 = .ok (.iconst 0, 1) := by decide +kernel
theorem dX11_wayOf_101 : decode cX11_wayOf 101 = .ok (.goto 5, 3) := by decide +kernel
theorem dX11_wayOf_104 : decode cX11_wayOf 104 = .ok (.bipush (-9), 2) := by decide +kernel
theorem dX11_wayOf_106 : decode cX11_wayOf 106 = .ok (.ireturn, 1) := by decide +kernel
theorem dX11_readsWays_0 : decode cX11_readsWays 0 = .ok (.aload_n 0, 1) := by decide +kernel
theorem dX11_readsWays_1 : decode cX11_readsWays 1 = .ok (.iconst 0, 1) := by decide +kernel
theorem dX11_readsWays_2 : decode cX11_readsWays 2 = .ok (.putfield 127, 3) := by decide +kernel
theorem dX11_readsWays_5 : decode cX11_readsWays 5 = .ok (.aload_n 0, 1) := by decide +kernel
theorem dX11_readsWays_6 : decode cX11_readsWays 6 = .ok (.getfield 25, 3) := by decide +kernel
theorem dX11_readsWays_9 : decode cX11_readsWays 9 = .ok (.iconst 0, 1) := by decide +kernel
theorem dX11_readsWays_10 : decode cX11_readsWays 10 = .ok (.iaload, 1) := by decide +kernel
theorem dX11_readsWays_11 : decode cX11_readsWays 11 = .ok (.istore_n 1, 1) := by decide +kernel
theorem dX11_readsWays_12 : decode cX11_readsWays 12 = .ok (.iconst 0, 1) := by decide +kernel
theorem dX11_readsWays_13 : decode cX11_readsWays 13 = .ok (.istore_n 2, 1) := by decide +kernel
theorem dX11_readsWays_14 : decode cX11_readsWays 14 = .ok (.iload_n 2, 1) := by decide +kernel
theorem dX11_readsWays_15 : decode cX11_readsWays 15 = .ok (.iload_n 1, 1) := by decide +kernel
theorem dX11_readsWays_16 : decode cX11_readsWays 16 = .ok (.if_icmp .ge 97, 3) := by decide +kernel
theorem dX11_readsWays_19 : decode cX11_readsWays 19 = .ok (.iload_n 2, 1) := by decide +kernel
theorem dX11_readsWays_20 : decode cX11_readsWays 20 = .ok (.iconst 5, 1) := by decide +kernel
theorem dX11_readsWays_21 : decode cX11_readsWays 21 = .ok (.irem, 1) := by decide +kernel
theorem dX11_readsWays_22 : decode cX11_readsWays 22 = .ok (.istore_n 3, 1) := by decide +kernel
theorem dX11_readsWays_23 : decode cX11_readsWays 23 = .ok (.iconst 4, 1) := by decide +kernel
theorem dX11_readsWays_24 : decode cX11_readsWays 24 = .ok (.iload_n 2, 1) := by decide +kernel
theorem dX11_readsWays_25 : decode cX11_readsWays 25 = .ok (.iconst 5, 1) := by decide +kernel
theorem dX11_readsWays_26 : decode cX11_readsWays 26 = .ok (.idiv, 1) := by decide +kernel
theorem dX11_readsWays_27 : decode cX11_readsWays 27 = .ok (.imul, 1) := by decide +kernel
theorem dX11_readsWays_28 : decode cX11_readsWays 28 = .ok (.istore 4, 2) := by decide +kernel
theorem dX11_readsWays_30 : decode cX11_readsWays 30 = .ok (.iload_n 3, 1) := by decide +kernel
theorem dX11_readsWays_31 : decode cX11_readsWays 31 = .ok (.aload_n 0, 1) := by decide +kernel
theorem dX11_readsWays_32 : decode cX11_readsWays 32 = .ok (.getfield 22, 3) := by decide +kernel
theorem dX11_readsWays_35 : decode cX11_readsWays 35 = .ok (.iload_n 2, 1) := by decide +kernel
theorem dX11_readsWays_36 : decode cX11_readsWays 36 = .ok (.iaload, 1) := by decide +kernel
theorem dX11_readsWays_37 : decode cX11_readsWays 37 = .ok (.iload_n 3, 1) := by decide +kernel
theorem dX11_readsWays_38 : decode cX11_readsWays 38 = .ok (.iconst 1, 1) := by decide +kernel
theorem dX11_readsWays_39 : decode cX11_readsWays 39 = .ok (.if_icmp .ne 13, 3) := by decide +kernel
theorem dX11_readsWays_42 : decode cX11_readsWays 42 = .ok (.aload_n 0, 1) := by decide +kernel
theorem dX11_readsWays_43 : decode cX11_readsWays 43 = .ok (.getfield 28, 3) := by decide +kernel
theorem dX11_readsWays_46 : decode cX11_readsWays 46 = .ok (.iload 4, 2) := by decide +kernel
theorem dX11_readsWays_48 : decode cX11_readsWays 48 = .ok (.iaload, 1) := by decide +kernel
theorem dX11_readsWays_49 : decode cX11_readsWays 49 = .ok (.goto 4, 3) := by decide +kernel
theorem dX11_readsWays_52 : decode cX11_readsWays 52 = .ok (.iconst (-1), 1) := by decide +kernel
theorem dX11_readsWays_53 : decode cX11_readsWays 53 = .ok (.invokestatic 130, 3) := by decide +kernel
theorem dX11_readsWays_56 : decode cX11_readsWays 56 = .ok (.istore 5, 2) := by decide +kernel
theorem dX11_readsWays_58 : decode cX11_readsWays 58 = .ok (.iload 5, 2) := by decide +kernel
theorem dX11_readsWays_60 : decode cX11_readsWays 60 = .ok (.bipush (-9), 2) := by decide +kernel
theorem dX11_readsWays_62 : decode cX11_readsWays 62 = .ok (.if_icmp .ne 10, 3) := by decide +kernel
theorem dX11_readsWays_65 : decode cX11_readsWays 65 = .ok (.aload_n 0, 1) := by decide +kernel
theorem dX11_readsWays_66 : decode cX11_readsWays 66 = .ok (.iconst 0, 1) := by decide +kernel
theorem dX11_readsWays_67 : decode cX11_readsWays 67 = .ok (.putfield 127, 3) := by decide +kernel
theorem dX11_readsWays_70 : decode cX11_readsWays 70 = .ok (.iload_n 2, 1) := by decide +kernel
theorem dX11_readsWays_71 : decode cX11_readsWays 71 = .ok (.ireturn, 1) := by decide +kernel
theorem dX11_readsWays_72 : decode cX11_readsWays 72 = .ok (.iload_n 3, 1) := by decide +kernel
theorem dX11_readsWays_73 : decode cX11_readsWays 73 = .ok (.iconst 4, 1) := by decide +kernel
theorem dX11_readsWays_74 : decode cX11_readsWays 74 = .ok (.if_icmp .ge 14, 3) := by decide +kernel
theorem dX11_readsWays_77 : decode cX11_readsWays 77 = .ok (.aload_n 0, 1) := by decide +kernel
theorem dX11_readsWays_78 : decode cX11_readsWays 78 = .ok (.getfield 28, 3) := by decide +kernel
theorem dX11_readsWays_81 : decode cX11_readsWays 81 = .ok (.iload 4, 2) := by decide +kernel
theorem dX11_readsWays_83 : decode cX11_readsWays 83 = .ok (.iload_n 3, 1) := by decide +kernel
theorem dX11_readsWays_84 : decode cX11_readsWays 84 = .ok (.iadd, 1) := by decide +kernel
theorem dX11_readsWays_85 : decode cX11_readsWays 85 = .ok (.iload 5, 2) := by decide +kernel
theorem dX11_readsWays_87 : decode cX11_readsWays 87 = .ok (.iastore, 1) := by decide +kernel
theorem dX11_readsWays_88 : decode cX11_readsWays 88 = .ok (.aload_n 0, 1) := by decide +kernel
theorem dX11_readsWays_89 : decode cX11_readsWays 89 = .ok (.dup, 1) := by decide +kernel
theorem dX11_readsWays_90 : decode cX11_readsWays 90 = .ok (.getfield 127, 3) := by decide +kernel
theorem dX11_readsWays_93 : decode cX11_readsWays 93 = .ok (.iload_n 3, 1) := by decide +kernel
theorem dX11_readsWays_94 : decode cX11_readsWays 94 = .ok (.iconst 3, 1) := by decide +kernel
theorem dX11_readsWays_95 : decode cX11_readsWays 95 = .ok (.if_icmp .ne 7, 3) := by decide +kernel
theorem dX11_readsWays_98 : decode cX11_readsWays 98 = .ok (.iconst 1, 1) := by decide +kernel
theorem dX11_readsWays_99 : decode cX11_readsWays 99 = .ok (.goto 4, 3) := by decide +kernel
theorem dX11_readsWays_102 : decode cX11_readsWays 102 = .ok (.iconst 0, 1) := by decide +kernel
theorem dX11_readsWays_103 : decode cX11_readsWays 103 = .ok (.iadd, 1) := by decide +kernel
theorem dX11_readsWays_104 : decode cX11_readsWays 104 = .ok (.putfield 127, 3) := by decide +kernel
theorem dX11_readsWays_107 : decode cX11_readsWays 107 = .ok (.iinc 2 1, 3) := by decide +kernel
theorem dX11_readsWays_110 : decode cX11_readsWays 110 = .ok (.goto (-96), 3) := by decide +kernel
theorem dX11_readsWays_113 : decode cX11_readsWays 113 = .ok (.iload_n 1, 1) := by decide +kernel
theorem dX11_readsWays_114 : decode cX11_readsWays 114 = .ok (.ifCond .le 17, 3) := by decide +kernel
theorem dX11_readsWays_117 : decode cX11_readsWays 117 = .ok (.iload_n 1, 1) := by decide +kernel
theorem dX11_readsWays_118 : decode cX11_readsWays 118 = .ok (.iconst 5, 1) := by decide +kernel
theorem dX11_readsWays_119 : decode cX11_readsWays 119 = .ok (.irem, 1) := by decide +kernel
theorem dX11_readsWays_120 : decode cX11_readsWays 120 = .ok (.iconst 4, 1) := by decide +kernel
theorem dX11_readsWays_121 : decode cX11_readsWays 121 = .ok (.if_icmp .eq 10, 3) := by decide +kernel
theorem dX11_readsWays_124 : decode cX11_readsWays 124 = .ok (.aload_n 0, 1) := by decide +kernel
theorem dX11_readsWays_125 : decode cX11_readsWays 125 = .ok (.iconst 0, 1) := by decide +kernel
theorem dX11_readsWays_126 : decode cX11_readsWays 126 = .ok (.putfield 127, 3) := by decide +kernel
theorem dX11_readsWays_129 : decode cX11_readsWays 129 = .ok (.iload_n 1, 1) := by decide +kernel
theorem dX11_readsWays_130 : decode cX11_readsWays 130 = .ok (.ireturn, 1) := by decide +kernel
theorem dX11_readsWays_131 : decode cX11_readsWays 131 = .ok (.iconst (-1), 1) := by decide +kernel
theorem dX11_readsWays_132 : decode cX11_readsWays 132 = .ok (.ireturn, 1) := by decide +kernel
theorem dX11_carterOf_0 : decode cX11_carterOf 0 = .ok (.iload_n 0, 1) := by decide +kernel
theorem dX11_carterOf_1 : decode cX11_carterOf 1 = .ok (.tableswitch 83 0 5 #[39, 39, 44, 77, 77, 77], 39) := by decide +kernel
theorem dX11_carterOf_40 : decode cX11_carterOf 40 = .ok (.iload_n 1, 1) := by decide +kernel
theorem dX11_carterOf_41 : decode cX11_carterOf 41 = .ok (.invokestatic 121, 3) := by decide +kernel
theorem dX11_carterOf_44 : decode cX11_carterOf 44 = .ok (.ireturn, 1) := by decide +kernel
theorem dX11_carterOf_45 : decode cX11_carterOf 45 = .ok (.iload_n 1, 1) := by decide +kernel
theorem dX11_carterOf_46 : decode cX11_carterOf 46 = .ok (.bipush 111, 2) := by decide +kernel
theorem dX11_carterOf_48 : decode cX11_carterOf 48 = .ok (.if_icmp .ne 7, 3) := by decide +kernel
theorem dX11_carterOf_51 : decode cX11_carterOf 51 = .ok (.iconst 0, 1) := by decide +kernel
theorem dX11_carterOf_52 : decode cX11_carterOf 52 = .ok (.goto 25, 3) := by decide +kernel
theorem dX11_carterOf_55 : decode cX11_carterOf 55 = .ok (.iload_n 1, 1) := by decide +kernel
theorem dX11_carterOf_56 : decode cX11_carterOf 56 = .ok (.bipush 99, 2) := by decide +kernel
theorem dX11_carterOf_58 : decode cX11_carterOf 58 = .ok (.if_icmp .ne 7, 3) := by decide +kernel
theorem dX11_carterOf_61 : decode cX11_carterOf 61 = .ok (.iconst 1, 1) := by decide +kernel
theorem dX11_carterOf_62 : decode cX11_carterOf 62 = .ok (.goto 15, 3) := by decide +kernel
theorem dX11_carterOf_65 : decode cX11_carterOf 65 = .ok (.iload_n 1, 1) := by decide +kernel
theorem dX11_carterOf_66 : decode cX11_carterOf 66 = .ok (.bipush 114, 2) := by decide +kernel
theorem dX11_carterOf_68 : decode cX11_carterOf 68 = .ok (.if_icmp .ne 7, 3) := by decide +kernel
theorem dX11_carterOf_71 : decode cX11_carterOf 71 = .ok (.iconst 2, 1) := by decide +kernel
theorem dX11_carterOf_72 : decode cX11_carterOf 72 = .ok (.goto 5, 3) := by decide +kernel
theorem dX11_carterOf_75 : decode cX11_carterOf 75 = .ok (.bipush (-9), 2) := by decide +kernel
theorem dX11_carterOf_77 : decode cX11_carterOf 77 = .ok (.ireturn, 1) := by decide +kernel
theorem dX11_carterOf_78 : decode cX11_carterOf 78 = .ok (.iload_n 1, 1) := by decide +kernel
theorem dX11_carterOf_79 : decode cX11_carterOf 79 = .ok (.iconst 0, 1) := by decide +kernel
theorem dX11_carterOf_80 : decode cX11_carterOf 80 = .ok (.invokestatic 124, 3) := by decide +kernel
theorem dX11_carterOf_83 : decode cX11_carterOf 83 = .ok (.ireturn, 1) := by decide +kernel
theorem dX11_carterOf_84 : decode cX11_carterOf 84 = .ok (.iload_n 1, 1) := by decide +kernel
theorem dX11_carterOf_85 : decode cX11_carterOf 85 = .ok (.bipush 59, 2) := by decide +kernel
theorem dX11_carterOf_87 : decode cX11_carterOf 87 = .ok (.if_icmp .ne 7, 3) := by decide +kernel
theorem dX11_carterOf_90 : decode cX11_carterOf 90 = .ok (.iconst 0, 1) := by decide +kernel
theorem dX11_carterOf_91 : decode cX11_carterOf 91 = .ok (.goto 5, 3) := by decide +kernel
theorem dX11_carterOf_94 : decode cX11_carterOf 94 = .ok (.bipush (-9), 2) := by decide +kernel
theorem dX11_carterOf_96 : decode cX11_carterOf 96 = .ok (.ireturn, 1) := by decide +kernel
theorem dX11_readsCarters_0 : decode cX11_readsCarters 0 = .ok (.aload_n 0, 1) := by decide +kernel
theorem dX11_readsCarters_1 : decode cX11_readsCarters 1 = .ok (.iconst 0, 1) := by decide +kernel
theorem dX11_readsCarters_2 : decode cX11_readsCarters 2 = .ok (.putfield 133, 3) := by decide +kernel
theorem dX11_readsCarters_5 : decode cX11_readsCarters 5 = .ok (.aload_n 0, 1) := by decide +kernel
theorem dX11_readsCarters_6 : decode cX11_readsCarters 6 = .ok (.getfield 25, 3) := by decide +kernel
theorem dX11_readsCarters_9 : decode cX11_readsCarters 9 = .ok (.iconst 1, 1) := by decide +kernel
theorem dX11_readsCarters_10 : decode cX11_readsCarters 10 = .ok (.iaload, 1) := by decide +kernel
theorem dX11_readsCarters_11 : decode cX11_readsCarters 11 = .ok (.istore_n 1, 1) := by decide +kernel
theorem dX11_readsCarters_12 : decode cX11_readsCarters 12 = .ok (.iconst 0, 1) := by decide +kernel
theorem dX11_readsCarters_13 : decode cX11_readsCarters 13 = .ok (.istore_n 2, 1) := by decide +kernel
theorem dX11_readsCarters_14 : decode cX11_readsCarters 14 = .ok (.iload_n 2, 1) := by decide +kernel
theorem dX11_readsCarters_15 : decode cX11_readsCarters 15 = .ok (.iload_n 1, 1) := by decide +kernel
theorem dX11_readsCarters_16 : decode cX11_readsCarters 16 = .ok (.if_icmp .ge 140, 3) := by decide +kernel
theorem dX11_readsCarters_19 : decode cX11_readsCarters 19 = .ok (.iload_n 2, 1) := by decide +kernel
theorem dX11_readsCarters_20 : decode cX11_readsCarters 20 = .ok (.bipush 7, 2) := by decide +kernel
theorem dX11_readsCarters_22 : decode cX11_readsCarters 22 = .ok (.irem, 1) := by decide +kernel
theorem dX11_readsCarters_23 : decode cX11_readsCarters 23 = .ok (.istore_n 3, 1) := by decide +kernel
theorem dX11_readsCarters_24 : decode cX11_readsCarters 24 = .ok (.iload_n 3, 1) := by decide +kernel
theorem dX11_readsCarters_25 : decode cX11_readsCarters 25 = .ok (.aload_n 0, 1) := by decide +kernel
theorem dX11_readsCarters_26 : decode cX11_readsCarters 26 = .ok (.getfield 22, 3) := by decide +kernel
theorem dX11_readsCarters_29 : decode cX11_readsCarters 29 = .ok (.bipush 56, 2) := by decide +kernel
theorem dX11_readsCarters_31 : decode cX11_readsCarters 31 = .ok (.iload_n 2, 1) := by decide +kernel
theorem dX11_readsCarters_32 : decode cX11_readsCarters 32 = .ok (.iadd, 1) := by decide +kernel
theorem dX11_readsCarters_33 : decode cX11_readsCarters 33 = .ok (.iaload, 1) := by decide +kernel
theorem dX11_readsCarters_34 : decode cX11_readsCarters 34 = .ok (.invokestatic 136, 3) := by decide +kernel
theorem dX11_readsCarters_37 : decode cX11_readsCarters 37 = .ok (.istore 4, 2) := by decide +kernel
theorem dX11_readsCarters_39 : decode cX11_readsCarters 39 = .ok (.iload 4, 2) := by decide +kernel
theorem dX11_readsCarters_41 : decode cX11_readsCarters 41 = .ok (.bipush (-9), 2) := by decide +kernel
theorem dX11_readsCarters_43 : decode cX11_readsCarters 43 = .ok (.if_icmp .ne 10, 3) := by decide +kernel
theorem dX11_readsCarters_46 : decode cX11_readsCarters 46 = .ok (.aload_n 0, 1) := by decide +kernel
theorem dX11_readsCarters_47 : decode cX11_readsCarters 47 = .ok (.iconst 0, 1) := by decide +kernel
theorem dX11_readsCarters_48 : decode cX11_readsCarters 48 = .ok (.putfield 133, 3) := by decide +kernel
theorem dX11_readsCarters_51 : decode cX11_readsCarters 51 = .ok (.iload_n 2, 1) := by decide +kernel
theorem dX11_readsCarters_52 : decode cX11_readsCarters 52 = .ok (.ireturn, 1) := by decide +kernel
theorem dX11_readsCarters_53 : decode cX11_readsCarters 53 = .ok (.iconst 5, 1) := by decide +kernel
theorem dX11_readsCarters_54 : decode cX11_readsCarters 54 = .ok (.iload_n 2, 1) := by decide +kernel
theorem dX11_readsCarters_55 : decode cX11_readsCarters 55 = .ok (.bipush 7, 2) := by decide +kernel
theorem dX11_readsCarters_57 : decode cX11_readsCarters 57 = .ok (.idiv, 1) := by decide +kernel
theorem dX11_readsCarters_58 : decode cX11_readsCarters 58 = .ok (.imul, 1) := by decide +kernel
theorem dX11_readsCarters_59 : decode cX11_readsCarters 59 = .ok (.istore 5, 2) := by decide +kernel
theorem dX11_readsCarters_61 : decode cX11_readsCarters 61 = .ok (.iload_n 3, 1) := by decide +kernel
theorem dX11_readsCarters_62 : decode cX11_readsCarters 62 = .ok (.iconst 3, 1) := by decide +kernel
theorem dX11_readsCarters_63 : decode cX11_readsCarters 63 = .ok (.if_icmp .ge 17, 3) := by decide +kernel
theorem dX11_readsCarters_66 : decode cX11_readsCarters 66 = .ok (.aload_n 0, 1) := by decide +kernel
theorem dX11_readsCarters_67 : decode cX11_readsCarters 67 = .ok (.getfield 31, 3) := by decide +kernel
theorem dX11_readsCarters_70 : decode cX11_readsCarters 70 = .ok (.iload 5, 2) := by decide +kernel
theorem dX11_readsCarters_72 : decode cX11_readsCarters 72 = .ok (.iload_n 3, 1) := by decide +kernel
theorem dX11_readsCarters_73 : decode cX11_readsCarters 73 = .ok (.iadd, 1) := by decide +kernel
theorem dX11_readsCarters_74 : decode cX11_readsCarters 74 = .ok (.iload 4, 2) := by decide +kernel
theorem dX11_readsCarters_76 : decode cX11_readsCarters 76 = .ok (.iastore, 1) := by decide +kernel
theorem dX11_readsCarters_77 : decode cX11_readsCarters 77 = .ok (.goto 73, 3) := by decide +kernel
theorem dX11_readsCarters_80 : decode cX11_readsCarters 80 = .ok (.iload_n 3, 1) := by decide +kernel
theorem dX11_readsCarters_81 : decode cX11_readsCarters 81 = .ok (.iconst 3, 1) := by decide +kernel
theorem dX11_readsCarters_82 : decode cX11_readsCarters 82 = .ok (.if_icmp .ne 20, 3) := by decide +kernel
theorem dX11_readsCarters_85 : decode cX11_readsCarters 85 = .ok (.aload_n 0, 1) := by decide +kernel
theorem dX11_readsCarters_86 : decode cX11_readsCarters 86 = .ok (.getfield 31, 3) := by decide +kernel
theorem dX11_readsCarters_89 : decode cX11_readsCarters 89 = .ok (.iload 5, 2) := by decide +kernel
theorem dX11_readsCarters_91 : decode cX11_readsCarters 91 = .ok (.iconst 3, 1) := by decide +kernel
theorem dX11_readsCarters_92 : decode cX11_readsCarters 92 = .ok (.iadd, 1) := by decide +kernel
theorem dX11_readsCarters_93 : decode cX11_readsCarters 93 = .ok (.bipush 10, 2) := by decide +kernel
theorem dX11_readsCarters_95 : decode cX11_readsCarters 95 = .ok (.iload 4, 2) := by decide +kernel
theorem dX11_readsCarters_97 : decode cX11_readsCarters 97 = .ok (.imul, 1) := by decide +kernel
theorem dX11_readsCarters_98 : decode cX11_readsCarters 98 = .ok (.iastore, 1) := by decide +kernel
theorem dX11_readsCarters_99 : decode cX11_readsCarters 99 = .ok (.goto 51, 3) := by decide +kernel
theorem dX11_readsCarters_102 : decode cX11_readsCarters 102 = .ok (.iload_n 3, 1) := by decide +kernel
theorem dX11_readsCarters_103 : decode cX11_readsCarters 103 = .ok (.iconst 4, 1) := by decide +kernel
theorem dX11_readsCarters_104 : decode cX11_readsCarters 104 = .ok (.if_icmp .ne 20, 3) := by decide +kernel
theorem dX11_readsCarters_107 : decode cX11_readsCarters 107 = .ok (.aload_n 0, 1) := by decide +kernel
theorem dX11_readsCarters_108 : decode cX11_readsCarters 108 = .ok (.getfield 31, 3) := by decide +kernel
theorem dX11_readsCarters_111 : decode cX11_readsCarters 111 = .ok (.iload 5, 2) := by decide +kernel
theorem dX11_readsCarters_113 : decode cX11_readsCarters 113 = .ok (.iconst 3, 1) := by decide +kernel
theorem dX11_readsCarters_114 : decode cX11_readsCarters 114 = .ok (.iadd, 1) := by decide +kernel
theorem dX11_readsCarters_115 : decode cX11_readsCarters 115 = .ok (.dup2, 1) := by decide +kernel
theorem dX11_readsCarters_116 : decode cX11_readsCarters 116 = .ok (.iaload, 1) := by decide +kernel
theorem dX11_readsCarters_117 : decode cX11_readsCarters 117 = .ok (.iload 4, 2) := by decide +kernel
theorem dX11_readsCarters_119 : decode cX11_readsCarters 119 = .ok (.iadd, 1) := by decide +kernel
theorem dX11_readsCarters_120 : decode cX11_readsCarters 120 = .ok (.iastore, 1) := by decide +kernel
theorem dX11_readsCarters_121 : decode cX11_readsCarters 121 = .ok (.goto 29, 3) := by decide +kernel
theorem dX11_readsCarters_124 : decode cX11_readsCarters 124 = .ok (.iload_n 3, 1) := by decide +kernel
theorem dX11_readsCarters_125 : decode cX11_readsCarters 125 = .ok (.iconst 5, 1) := by decide +kernel
theorem dX11_readsCarters_126 : decode cX11_readsCarters 126 = .ok (.if_icmp .ne 24, 3) := by decide +kernel
theorem dX11_readsCarters_129 : decode cX11_readsCarters 129 = .ok (.aload_n 0, 1) := by decide +kernel
theorem dX11_readsCarters_130 : decode cX11_readsCarters 130 = .ok (.getfield 31, 3) := by decide +kernel
theorem dX11_readsCarters_133 : decode cX11_readsCarters 133 = .ok (.iload 5, 2) := by decide +kernel
theorem dX11_readsCarters_135 : decode cX11_readsCarters 135 = .ok (.iconst 4, 1) := by decide +kernel
theorem dX11_readsCarters_136 : decode cX11_readsCarters 136 = .ok (.iadd, 1) := by decide +kernel
theorem dX11_readsCarters_137 : decode cX11_readsCarters 137 = .ok (.iload 4, 2) := by decide +kernel
theorem dX11_readsCarters_139 : decode cX11_readsCarters 139 = .ok (.iastore, 1) := by decide +kernel
theorem dX11_readsCarters_140 : decode cX11_readsCarters 140 = .ok (.aload_n 0, 1) := by decide +kernel
theorem dX11_readsCarters_141 : decode cX11_readsCarters 141 = .ok (.dup, 1) := by decide +kernel
theorem dX11_readsCarters_142 : decode cX11_readsCarters 142 = .ok (.getfield 133, 3) := by decide +kernel
theorem dX11_readsCarters_145 : decode cX11_readsCarters 145 = .ok (.iconst 1, 1) := by decide +kernel
theorem dX11_readsCarters_146 : decode cX11_readsCarters 146 = .ok (.iadd, 1) := by decide +kernel
theorem dX11_readsCarters_147 : decode cX11_readsCarters 147 = .ok (.putfield 133, 3) := by decide +kernel
theorem dX11_readsCarters_150 : decode cX11_readsCarters 150 = .ok (.iinc 2 1, 3) := by decide +kernel
theorem dX11_readsCarters_153 : decode cX11_readsCarters 153 = .ok (.goto (-139), 3) := by decide +kernel
theorem dX11_readsCarters_156 : decode cX11_readsCarters 156 = .ok (.iload_n 1, 1) := by decide +kernel
theorem dX11_readsCarters_157 : decode cX11_readsCarters 157 = .ok (.ifCond .le 19, 3) := by decide +kernel
theorem dX11_readsCarters_160 : decode cX11_readsCarters 160 = .ok (.iload_n 1, 1) := by decide +kernel
theorem dX11_readsCarters_161 : decode cX11_readsCarters 161 = .ok (.bipush 7, 2) := by decide +kernel
theorem dX11_readsCarters_163 : decode cX11_readsCarters 163 = .ok (.irem, 1) := by decide +kernel
theorem dX11_readsCarters_164 : decode cX11_readsCarters 164 = .ok (.bipush 6, 2) := by decide +kernel
theorem dX11_readsCarters_166 : decode cX11_readsCarters 166 = .ok (.if_icmp .eq 10, 3) := by decide +kernel
theorem dX11_readsCarters_169 : decode cX11_readsCarters 169 = .ok (.aload_n 0, 1) := by decide +kernel
theorem dX11_readsCarters_170 : decode cX11_readsCarters 170 = .ok (.iconst 0, 1) := by decide +kernel
theorem dX11_readsCarters_171 : decode cX11_readsCarters 171 = .ok (.putfield 133, 3) := by decide +kernel
theorem dX11_readsCarters_174 : decode cX11_readsCarters 174 = .ok (.iload_n 1, 1) := by decide +kernel
theorem dX11_readsCarters_175 : decode cX11_readsCarters 175 = .ok (.ireturn, 1) := by decide +kernel
theorem dX11_readsCarters_176 : decode cX11_readsCarters 176 = .ok (.iconst (-1), 1) := by decide +kernel
theorem dX11_readsCarters_177 : decode cX11_readsCarters 177 = .ok (.ireturn, 1) := by decide +kernel
theorem dX11_readsText_0 : decode cX11_readsText 0 = .ok (.iload_n 1, 1) := by decide +kernel
theorem dX11_readsText_1 : decode cX11_readsText 1 = .ok (.ifCond .ne 10, 3) := by decide +kernel
theorem dX11_readsText_4 : decode cX11_readsText 4 = .ok (.aload_n 0, 1) := by decide +kernel
theorem dX11_readsText_5 : decode cX11_readsText 5 = .ok (.invokevirtual 139, 3) := by decide +kernel
theorem dX11_readsText_8 : decode cX11_readsText 8 = .ok (.goto 7, 3) := by decide +kernel
theorem dX11_readsText_11 : decode cX11_readsText 11 = .ok (.aload_n 0, 1) := by decide +kernel
theorem dX11_readsText_12 : decode cX11_readsText 12 = .ok (.invokevirtual 143, 3) := by decide +kernel
theorem dX11_readsText_15 : decode cX11_readsText 15 = .ok (.ireturn, 1) := by decide +kernel
theorem dX11_fault_0 : decode cX11_fault 0 = .ok (.iload_n 1, 1) := by decide +kernel
theorem dX11_fault_1 : decode cX11_fault 1 = .ok (.invokestatic 110, 3) := by decide +kernel
theorem dX11_fault_4 : decode cX11_fault 4 = .ok (.ifCond .eq 11, 3) := by decide +kernel
theorem dX11_fault_7 : decode cX11_fault 7 = .ok (.aload_n 0, 1) := by decide +kernel
theorem dX11_fault_8 : decode cX11_fault 8 = .ok (.iload_n 1, 1) := by decide +kernel
theorem dX11_fault_9 : decode cX11_fault 9 = .ok (.invokevirtual 146, 3) := by decide +kernel
theorem dX11_fault_12 : decode cX11_fault 12 = .ok (.goto 5, 3) := by decide +kernel
theorem dX11_fault_15 : decode cX11_fault 15 = .ok (.bipush (-2), 2) := by decide +kernel
theorem dX11_fault_17 : decode cX11_fault 17 = .ok (.ireturn, 1) := by decide +kernel
theorem dX11_isCarter_0 : decode cX11_isCarter 0 = .ok (.iload_n 1, 1) := by decide +kernel
theorem dX11_isCarter_1 : decode cX11_isCarter 1 = .ok (.i2l, 1) := by decide +kernel
theorem dX11_isCarter_2 : decode cX11_isCarter 2 = .ok (.lconst 0, 1) := by decide +kernel
theorem dX11_isCarter_3 : decode cX11_isCarter 3 = .ok (.aload_n 0, 1) := by decide +kernel
theorem dX11_isCarter_4 : decode cX11_isCarter 4 = .ok (.getfield 133, 3) := by decide +kernel
theorem dX11_isCarter_7 : decode cX11_isCarter 7 = .ok (.iconst 1, 1) := by decide +kernel
theorem dX11_isCarter_8 : decode cX11_isCarter 8 = .ok (.isub, 1) := by decide +kernel
theorem dX11_isCarter_9 : decode cX11_isCarter 9 = .ok (.i2l, 1) := by decide +kernel
theorem dX11_isCarter_10 : decode cX11_isCarter 10 = .ok (.invokestatic 81, 3) := by decide +kernel
theorem dX11_isCarter_13 : decode cX11_isCarter 13 = .ok (.ireturn, 1) := by decide +kernel
theorem dX11_isHour_0 : decode cX11_isHour 0 = .ok (.iload_n 0, 1) := by decide +kernel
theorem dX11_isHour_1 : decode cX11_isHour 1 = .ok (.i2l, 1) := by decide +kernel
theorem dX11_isHour_2 : decode cX11_isHour 2 = .ok (.lconst 0, 1) := by decide +kernel
theorem dX11_isHour_3 : decode cX11_isHour 3 = .ok (.ldc2_w 149, 3) := by decide +kernel
theorem dX11_isHour_6 : decode cX11_isHour 6 = .ok (.invokestatic 81, 3) := by decide +kernel
theorem dX11_isHour_9 : decode cX11_isHour 9 = .ok (.ireturn, 1) := by decide +kernel
theorem dX11_isPlace_0 : decode cX11_isPlace 0 = .ok (.iload_n 0, 1) := by decide +kernel
theorem dX11_isPlace_1 : decode cX11_isPlace 1 = .ok (.i2l, 1) := by decide +kernel
theorem dX11_isPlace_2 : decode cX11_isPlace 2 = .ok (.lconst 0, 1) := by decide +kernel
theorem dX11_isPlace_3 : decode cX11_isPlace 3 = .ok (.ldc2_w 151, 3) := by decide +kernel
theorem dX11_isPlace_6 : decode cX11_isPlace 6 = .ok (.invokestatic 81, 3) := by decide +kernel
theorem dX11_isPlace_9 : decode cX11_isPlace 9 = .ok (.ireturn, 1) := by decide +kernel
theorem dX11_way_0 : decode cX11_way 0 = .ok (.aload_n 0, 1) := by decide +kernel
theorem dX11_way_1 : decode cX11_way 1 = .ok (.invokevirtual 139, 3) := by decide +kernel
theorem dX11_way_4 : decode cX11_way 4 = .ok (.pop, 1) := by decide +kernel
theorem dX11_way_5 : decode cX11_way 5 = .ok (.iload_n 1, 1) := by decide +kernel
theorem dX11_way_6 : decode cX11_way 6 = .ok (.i2l, 1) := by decide +kernel
theorem dX11_way_7 : decode cX11_way 7 = .ok (.lconst 0, 1) := by decide +kernel
theorem dX11_way_8 : decode cX11_way 8 = .ok (.aload_n 0, 1) := by decide +kernel
theorem dX11_way_9 : decode cX11_way 9 = .ok (.getfield 127, 3) := by decide +kernel
theorem dX11_way_12 : decode cX11_way 12 = .ok (.iconst 1, 1) := by decide +kernel
theorem dX11_way_13 : decode cX11_way 13 = .ok (.isub, 1) := by decide +kernel
theorem dX11_way_14 : decode cX11_way 14 = .ok (.i2l, 1) := by decide +kernel
theorem dX11_way_15 : decode cX11_way 15 = .ok (.invokestatic 81, 3) := by decide +kernel
theorem dX11_way_18 : decode cX11_way 18 = .ok (.ifCond .eq 28, 3) := by decide +kernel
theorem dX11_way_21 : decode cX11_way 21 = .ok (.iload_n 2, 1) := by decide +kernel
theorem dX11_way_22 : decode cX11_way 22 = .ok (.i2l, 1) := by decide +kernel
theorem dX11_way_23 : decode cX11_way 23 = .ok (.lconst 0, 1) := by decide +kernel
theorem dX11_way_24 : decode cX11_way 24 = .ok (.ldc2_w 89, 3) := by decide +kernel
theorem dX11_way_27 : decode cX11_way 27 = .ok (.invokestatic 81, 3) := by decide +kernel
theorem dX11_way_30 : decode cX11_way 30 = .ok (.ifCond .eq 16, 3) := by decide +kernel
theorem dX11_way_33 : decode cX11_way 33 = .ok (.aload_n 0, 1) := by decide +kernel
theorem dX11_way_34 : decode cX11_way 34 = .ok (.getfield 28, 3) := by decide +kernel
theorem dX11_way_37 : decode cX11_way 37 = .ok (.iconst 4, 1) := by decide +kernel
theorem dX11_way_38 : decode cX11_way 38 = .ok (.iload_n 1, 1) := by decide +kernel
theorem dX11_way_39 : decode cX11_way 39 = .ok (.imul, 1) := by decide +kernel
theorem dX11_way_40 : decode cX11_way 40 = .ok (.iload_n 2, 1) := by decide +kernel
theorem dX11_way_41 : decode cX11_way 41 = .ok (.iadd, 1) := by decide +kernel
theorem dX11_way_42 : decode cX11_way 42 = .ok (.iaload, 1) := by decide +kernel
theorem dX11_way_43 : decode cX11_way 43 = .ok (.goto 5, 3) := by decide +kernel
theorem dX11_way_46 : decode cX11_way 46 = .ok (.bipush (-2), 2) := by decide +kernel
theorem dX11_way_48 : decode cX11_way 48 = .ok (.ireturn, 1) := by decide +kernel
theorem dX11_carter_0 : decode cX11_carter 0 = .ok (.aload_n 0, 1) := by decide +kernel
theorem dX11_carter_1 : decode cX11_carter 1 = .ok (.invokevirtual 143, 3) := by decide +kernel
theorem dX11_carter_4 : decode cX11_carter 4 = .ok (.pop, 1) := by decide +kernel
theorem dX11_carter_5 : decode cX11_carter 5 = .ok (.aload_n 0, 1) := by decide +kernel
theorem dX11_carter_6 : decode cX11_carter 6 = .ok (.iload_n 1, 1) := by decide +kernel
theorem dX11_carter_7 : decode cX11_carter 7 = .ok (.invokevirtual 153, 3) := by decide +kernel
theorem dX11_carter_10 : decode cX11_carter 10 = .ok (.ifCond .eq 28, 3) := by decide +kernel
theorem dX11_carter_13 : decode cX11_carter 13 = .ok (.iload_n 2, 1) := by decide +kernel
theorem dX11_carter_14 : decode cX11_carter 14 = .ok (.i2l, 1) := by decide +kernel
theorem dX11_carter_15 : decode cX11_carter 15 = .ok (.lconst 0, 1) := by decide +kernel
theorem dX11_carter_16 : decode cX11_carter 16 = .ok (.ldc2_w 156, 3) := by decide +kernel
theorem dX11_carter_19 : decode cX11_carter 19 = .ok (.invokestatic 81, 3) := by decide +kernel
theorem dX11_carter_22 : decode cX11_carter 22 = .ok (.ifCond .eq 16, 3) := by decide +kernel
theorem dX11_carter_25 : decode cX11_carter 25 = .ok (.aload_n 0, 1) := by decide +kernel
theorem dX11_carter_26 : decode cX11_carter 26 = .ok (.getfield 31, 3) := by decide +kernel
theorem dX11_carter_29 : decode cX11_carter 29 = .ok (.iconst 5, 1) := by decide +kernel
theorem dX11_carter_30 : decode cX11_carter 30 = .ok (.iload_n 1, 1) := by decide +kernel
theorem dX11_carter_31 : decode cX11_carter 31 = .ok (.imul, 1) := by decide +kernel
theorem dX11_carter_32 : decode cX11_carter 32 = .ok (.iload_n 2, 1) := by decide +kernel
theorem dX11_carter_33 : decode cX11_carter 33 = .ok (.iadd, 1) := by decide +kernel
theorem dX11_carter_34 : decode cX11_carter 34 = .ok (.iaload, 1) := by decide +kernel
theorem dX11_carter_35 : decode cX11_carter 35 = .ok (.goto 5, 3) := by decide +kernel
theorem dX11_carter_38 : decode cX11_carter 38 = .ok (.bipush (-2), 2) := by decide +kernel
theorem dX11_carter_40 : decode cX11_carter 40 = .ok (.ireturn, 1) := by decide +kernel
theorem dX11_late_0 : decode cX11_late 0 = .ok (.iload_n 1, 1) := by decide +kernel
theorem dX11_late_1 : decode cX11_late 1 = .ok (.i2l, 1) := by decide +kernel
theorem dX11_late_2 : decode cX11_late 2 = .ok (.lconst 0, 1) := by decide +kernel
theorem dX11_late_3 : decode cX11_late 3 = .ok (.ldc2_w 151, 3) := by decide +kernel
theorem dX11_late_6 : decode cX11_late 6 = .ok (.invokestatic 81, 3) := by decide +kernel
theorem dX11_late_9 : decode cX11_late 9 = .ok (.ifCond .eq 15, 3) := by decide +kernel
theorem dX11_late_12 : decode cX11_late 12 = .ok (.iload_n 2, 1) := by decide +kernel
theorem dX11_late_13 : decode cX11_late 13 = .ok (.i2l, 1) := by decide +kernel
theorem dX11_late_14 : decode cX11_late 14 = .ok (.lconst 0, 1) := by decide +kernel
theorem dX11_late_15 : decode cX11_late 15 = .ok (.ldc2_w 158, 3) := by decide +kernel
theorem dX11_late_18 : decode cX11_late 18 = .ok (.invokestatic 81, 3) := by decide +kernel
theorem dX11_late_21 : decode cX11_late 21 = .ok (.ifCond .ne 6, 3) := by decide +kernel
theorem dX11_late_24 : decode cX11_late 24 = .ok (.bipush (-2), 2) := by decide +kernel
theorem dX11_late_26 : decode cX11_late 26 = .ok (.ireturn, 1) := by decide +kernel
theorem dX11_late_27 : decode cX11_late 27 = .ok (.aload_n 0, 1) := by decide +kernel
theorem dX11_late_28 : decode cX11_late 28 = .ok (.getfield 34, 3) := by decide +kernel
theorem dX11_late_31 : decode cX11_late 31 = .ok (.iload_n 1, 1) := by decide +kernel
theorem dX11_late_32 : decode cX11_late 32 = .ok (.iaload, 1) := by decide +kernel
theorem dX11_late_33 : decode cX11_late 33 = .ok (.istore_n 3, 1) := by decide +kernel
theorem dX11_late_34 : decode cX11_late 34 = .ok (.aload_n 0, 1) := by decide +kernel
theorem dX11_late_35 : decode cX11_late 35 = .ok (.getfield 34, 3) := by decide +kernel
theorem dX11_late_38 : decode cX11_late 38 = .ok (.iload_n 1, 1) := by decide +kernel
theorem dX11_late_39 : decode cX11_late 39 = .ok (.iload_n 2, 1) := by decide +kernel
theorem dX11_late_40 : decode cX11_late 40 = .ok (.iastore, 1) := by decide +kernel
theorem dX11_late_41 : decode cX11_late 41 = .ok (.iload_n 3, 1) := by decide +kernel
theorem dX11_late_42 : decode cX11_late 42 = .ok (.ireturn, 1) := by decide +kernel
theorem dX11_answer_0 : decode cX11_answer 0 = .ok (.iload_n 1, 1) := by decide +kernel
theorem dX11_answer_1 : decode cX11_answer 1 = .ok (.invokestatic 160, 3) := by decide +kernel
theorem dX11_answer_4 : decode cX11_answer 4 = .ok (.ifCond .eq 10, 3) := by decide +kernel
theorem dX11_answer_7 : decode cX11_answer 7 = .ok (.iload_n 2, 1) := by decide +kernel
theorem dX11_answer_8 : decode cX11_answer 8 = .ok (.invokestatic 163, 3) := by decide +kernel
theorem dX11_answer_11 : decode cX11_answer 11 = .ok (.ifCond .ne 6, 3) := by decide +kernel
theorem dX11_answer_14 : decode cX11_answer 14 = .ok (.bipush (-2), 2) := by decide +kernel
theorem dX11_answer_16 : decode cX11_answer 16 = .ok (.ireturn, 1) := by decide +kernel
theorem dX11_answer_17 : decode cX11_answer 17 = .ok (.aload_n 0, 1) := by decide +kernel
theorem dX11_answer_18 : decode cX11_answer 18 = .ok (.getfield 166, 3) := by decide +kernel
theorem dX11_answer_21 : decode cX11_answer 21 = .ok (.bipush 8, 2) := by decide +kernel
theorem dX11_answer_23 : decode cX11_answer 23 = .ok (.if_icmp .ne 6, 3) := by decide +kernel
theorem dX11_answer_26 : decode cX11_answer 26 = .ok (.bipush (-4), 2) := by decide +kernel
theorem dX11_answer_28 : decode cX11_answer 28 = .ok (.ireturn, 1) := by decide +kernel
theorem dX11_answer_29 : decode cX11_answer 29 = .ok (.aload_n 0, 1) := by decide +kernel
theorem dX11_answer_30 : decode cX11_answer 30 = .ok (.getfield 37, 3) := by decide +kernel
theorem dX11_answer_33 : decode cX11_answer 33 = .ok (.iconst 2, 1) := by decide +kernel
theorem dX11_answer_34 : decode cX11_answer 34 = .ok (.aload_n 0, 1) := by decide +kernel
theorem dX11_answer_35 : decode cX11_answer 35 = .ok (.getfield 166, 3) := by decide +kernel
theorem dX11_answer_38 : decode cX11_answer 38 = .ok (.imul, 1) := by decide +kernel
theorem dX11_answer_39 : decode cX11_answer 39 = .ok (.iload_n 1, 1) := by decide +kernel
theorem dX11_answer_40 : decode cX11_answer 40 = .ok (.iastore, 1) := by decide +kernel
theorem dX11_answer_41 : decode cX11_answer 41 = .ok (.aload_n 0, 1) := by decide +kernel
theorem dX11_answer_42 : decode cX11_answer 42 = .ok (.getfield 37, 3) := by decide +kernel
theorem dX11_answer_45 : decode cX11_answer 45 = .ok (.iconst 2, 1) := by decide +kernel
theorem dX11_answer_46 : decode cX11_answer 46 = .ok (.aload_n 0, 1) := by decide +kernel
theorem dX11_answer_47 : decode cX11_answer 47 = .ok (.getfield 166, 3) := by decide +kernel
theorem dX11_answer_50 : decode cX11_answer 50 = .ok (.imul, 1) := by decide +kernel
theorem dX11_answer_51 : decode cX11_answer 51 = .ok (.iconst 1, 1) := by decide +kernel
theorem dX11_answer_52 : decode cX11_answer 52 = .ok (.iadd, 1) := by decide +kernel
theorem dX11_answer_53 : decode cX11_answer 53 = .ok (.iload_n 2, 1) := by decide +kernel
theorem dX11_answer_54 : decode cX11_answer 54 = .ok (.iastore, 1) := by decide +kernel
theorem dX11_answer_55 : decode cX11_answer 55 = .ok (.aload_n 0, 1) := by decide +kernel
theorem dX11_answer_56 : decode cX11_answer 56 = .ok (.dup, 1) := by decide +kernel
theorem dX11_answer_57 : decode cX11_answer 57 = .ok (.getfield 166, 3) := by decide +kernel
theorem dX11_answer_60 : decode cX11_answer 60 = .ok (.iconst 1, 1) := by decide +kernel
theorem dX11_answer_61 : decode cX11_answer 61 = .ok (.iadd, 1) := by decide +kernel
theorem dX11_answer_62 : decode cX11_answer 62 = .ok (.putfield 166, 3) := by decide +kernel
theorem dX11_answer_65 : decode cX11_answer 65 = .ok (.aload_n 0, 1) := by decide +kernel
theorem dX11_answer_66 : decode cX11_answer 66 = .ok (.getfield 166, 3) := by decide +kernel
theorem dX11_answer_69 : decode cX11_answer 69 = .ok (.ireturn, 1) := by decide +kernel
theorem dX11_back_0 : decode cX11_back 0 = .ok (.aload_n 0, 1) := by decide +kernel
theorem dX11_back_1 : decode cX11_back 1 = .ok (.getfield 166, 3) := by decide +kernel
theorem dX11_back_4 : decode cX11_back 4 = .ok (.ifCond .ne 6, 3) := by decide +kernel
theorem dX11_back_7 : decode cX11_back 7 = .ok (.bipush (-3), 2) := by decide +kernel
theorem dX11_back_9 : decode cX11_back 9 = .ok (.ireturn, 1) := by decide +kernel
theorem dX11_back_10 : decode cX11_back 10 = .ok (.aload_n 0, 1) := by decide +kernel
theorem dX11_back_11 : decode cX11_back 11 = .ok (.dup, 1) := by decide +kernel
theorem dX11_back_12 : decode cX11_back 12 = .ok (.getfield 166, 3) := by decide +kernel
theorem dX11_back_15 : decode cX11_back 15 = .ok (.iconst 1, 1) := by decide +kernel
theorem dX11_back_16 : decode cX11_back 16 = .ok (.isub, 1) := by decide +kernel
theorem dX11_back_17 : decode cX11_back 17 = .ok (.putfield 166, 3) := by decide +kernel
theorem dX11_back_20 : decode cX11_back 20 = .ok (.aload_n 0, 1) := by decide +kernel
theorem dX11_back_21 : decode cX11_back 21 = .ok (.getfield 166, 3) := by decide +kernel
theorem dX11_back_24 : decode cX11_back 24 = .ok (.ireturn, 1) := by decide +kernel
theorem dX11_read_0 : decode cX11_read 0 = .ok (.iload_n 1, 1) := by decide +kernel
theorem dX11_read_1 : decode cX11_read 1 = .ok (.invokestatic 91, 3) := by decide +kernel
theorem dX11_read_4 : decode cX11_read 4 = .ok (.ifCond .ne 6, 3) := by decide +kernel
theorem dX11_read_7 : decode cX11_read 7 = .ok (.bipush (-2), 2) := by decide +kernel
theorem dX11_read_9 : decode cX11_read 9 = .ok (.ireturn, 1) := by decide +kernel
theorem dX11_read_10 : decode cX11_read 10 = .ok (.aload_n 0, 1) := by decide +kernel
theorem dX11_read_11 : decode cX11_read 11 = .ok (.getfield 7, 3) := by decide +kernel
theorem dX11_read_14 : decode cX11_read 14 = .ok (.iload_n 1, 1) := by decide +kernel
theorem dX11_read_15 : decode cX11_read 15 = .ok (.iaload, 1) := by decide +kernel
theorem dX11_read_16 : decode cX11_read 16 = .ok (.ifCond .ge 9, 3) := by decide +kernel
theorem dX11_read_19 : decode cX11_read 19 = .ok (.aload_n 0, 1) := by decide +kernel
theorem dX11_read_20 : decode cX11_read 20 = .ok (.iconst 1, 1) := by decide +kernel
theorem dX11_read_21 : decode cX11_read 21 = .ok (.invokevirtual 97, 3) := by decide +kernel
theorem dX11_read_24 : decode cX11_read 24 = .ok (.ireturn, 1) := by decide +kernel
theorem dX11_read_25 : decode cX11_read 25 = .ok (.iconst 0, 1) := by decide +kernel
theorem dX11_read_26 : decode cX11_read 26 = .ok (.istore_n 2, 1) := by decide +kernel
theorem dX11_read_27 : decode cX11_read 27 = .ok (.iconst 1, 1) := by decide +kernel
theorem dX11_read_28 : decode cX11_read 28 = .ok (.istore_n 3, 1) := by decide +kernel
theorem dX11_read_29 : decode cX11_read 29 = .ok (.iload_n 3, 1) := by decide +kernel
theorem dX11_read_30 : decode cX11_read 30 = .ok (.ifCond .eq 73, 3) := by decide +kernel
theorem dX11_read_33 : decode cX11_read 33 = .ok (.iconst 2, 1) := by decide +kernel
theorem dX11_read_34 : decode cX11_read 34 = .ok (.iload_n 2, 1) := by decide +kernel
theorem dX11_read_35 : decode cX11_read 35 = .ok (.imul, 1) := by decide +kernel
theorem dX11_read_36 : decode cX11_read 36 = .ok (.iconst 2, 1) := by decide +kernel
theorem dX11_read_37 : decode cX11_read 37 = .ok (.iadd, 1) := by decide +kernel
theorem dX11_read_38 : decode cX11_read 38 = .ok (.aload_n 0, 1) := by decide +kernel
theorem dX11_read_39 : decode cX11_read 39 = .ok (.getfield 13, 3) := by decide +kernel
theorem dX11_read_42 : decode cX11_read 42 = .ok (.iload_n 1, 1) := by decide +kernel
theorem dX11_read_43 : decode cX11_read 43 = .ok (.iaload, 1) := by decide +kernel
theorem dX11_read_44 : decode cX11_read 44 = .ok (.if_icmp .gt 59, 3) := by decide +kernel
theorem dX11_read_47 : decode cX11_read 47 = .ok (.aload_n 0, 1) := by decide +kernel
theorem dX11_read_48 : decode cX11_read 48 = .ok (.aload_n 0, 1) := by decide +kernel
theorem dX11_read_49 : decode cX11_read 49 = .ok (.getfield 16, 3) := by decide +kernel
theorem dX11_read_52 : decode cX11_read 52 = .ok (.bipush 60, 2) := by decide +kernel
theorem dX11_read_54 : decode cX11_read 54 = .ok (.iload_n 1, 1) := by decide +kernel
theorem dX11_read_55 : decode cX11_read 55 = .ok (.imul, 1) := by decide +kernel
theorem dX11_read_56 : decode cX11_read 56 = .ok (.iconst 2, 1) := by decide +kernel
theorem dX11_read_57 : decode cX11_read 57 = .ok (.iload_n 2, 1) := by decide +kernel
theorem dX11_read_58 : decode cX11_read 58 = .ok (.imul, 1) := by decide +kernel
theorem dX11_read_59 : decode cX11_read 59 = .ok (.iadd, 1) := by decide +kernel
theorem dX11_read_60 : decode cX11_read 60 = .ok (.iaload, 1) := by decide +kernel
theorem dX11_read_61 : decode cX11_read 61 = .ok (.aload_n 0, 1) := by decide +kernel
theorem dX11_read_62 : decode cX11_read 62 = .ok (.getfield 16, 3) := by decide +kernel
theorem dX11_read_65 : decode cX11_read 65 = .ok (.bipush 60, 2) := by decide +kernel
theorem dX11_read_67 : decode cX11_read 67 = .ok (.iload_n 1, 1) := by decide +kernel
theorem dX11_read_68 : decode cX11_read 68 = .ok (.imul, 1) := by decide +kernel
theorem dX11_read_69 : decode cX11_read 69 = .ok (.iconst 2, 1) := by decide +kernel
theorem dX11_read_70 : decode cX11_read 70 = .ok (.iload_n 2, 1) := by decide +kernel
theorem dX11_read_71 : decode cX11_read 71 = .ok (.imul, 1) := by decide +kernel
theorem dX11_read_72 : decode cX11_read 72 = .ok (.iadd, 1) := by decide +kernel
theorem dX11_read_73 : decode cX11_read 73 = .ok (.iconst 1, 1) := by decide +kernel
theorem dX11_read_74 : decode cX11_read 74 = .ok (.iadd, 1) := by decide +kernel
theorem dX11_read_75 : decode cX11_read 75 = .ok (.iaload, 1) := by decide +kernel
theorem dX11_read_76 : decode cX11_read 76 = .ok (.invokevirtual 169, 3) := by decide +kernel
theorem dX11_read_79 : decode cX11_read 79 = .ok (.ifCond .lt 7, 3) := by decide +kernel
theorem dX11_read_82 : decode cX11_read 82 = .ok (.iconst 1, 1) := by decide +kernel
theorem dX11_read_83 : decode cX11_read 83 = .ok (.goto 4, 3) := by decide +kernel
theorem dX11_read_86 : decode cX11_read 86 = .ok (.iconst 0, 1) := by decide +kernel
theorem dX11_read_87 : decode cX11_read 87 = .ok (.istore_n 3, 1) := by decide +kernel
theorem dX11_read_88 : decode cX11_read 88 = .ok (.iload_n 2, 1) := by decide +kernel
theorem dX11_read_89 : decode cX11_read 89 = .ok (.iload_n 3, 1) := by decide +kernel
theorem dX11_read_90 : decode cX11_read 90 = .ok (.ifCond .eq 7, 3) := by decide +kernel
theorem dX11_read_93 : decode cX11_read 93 = .ok (.iconst 1, 1) := by decide +kernel
theorem dX11_read_94 : decode cX11_read 94 = .ok (.goto 4, 3) := by decide +kernel
theorem dX11_read_97 : decode cX11_read 97 = .ok (.iconst 0, 1) := by decide +kernel
theorem dX11_read_98 : decode cX11_read 98 = .ok (.iadd, 1) := by decide +kernel
theorem dX11_read_99 : decode cX11_read 99 = .ok (.istore_n 2, 1) := by decide +kernel
theorem dX11_read_100 : decode cX11_read 100 = .ok (.goto (-71), 3) := by decide +kernel
theorem dX11_read_103 : decode cX11_read 103 = .ok (.iload_n 2, 1) := by decide +kernel
theorem dX11_read_104 : decode cX11_read 104 = .ok (.ireturn, 1) := by decide +kernel
theorem dX11_maps_0 : decode cX11_maps 0 = .ok (.iconst 0, 1) := by decide +kernel
theorem dX11_maps_1 : decode cX11_maps 1 = .ok (.istore_n 1, 1) := by decide +kernel
theorem dX11_maps_2 : decode cX11_maps 2 = .ok (.iload_n 1, 1) := by decide +kernel
theorem dX11_maps_3 : decode cX11_maps 3 = .ok (.bipush 64, 2) := by decide +kernel
theorem dX11_maps_5 : decode cX11_maps 5 = .ok (.if_icmp .ge 18, 3) := by decide +kernel
theorem dX11_maps_8 : decode cX11_maps 8 = .ok (.aload_n 0, 1) := by decide +kernel
theorem dX11_maps_9 : decode cX11_maps 9 = .ok (.getfield 40, 3) := by decide +kernel
theorem dX11_maps_12 : decode cX11_maps 12 = .ok (.iload_n 1, 1) := by decide +kernel
theorem dX11_maps_13 : decode cX11_maps 13 = .ok (.sipush 9999, 3) := by decide +kernel
theorem dX11_maps_16 : decode cX11_maps 16 = .ok (.iastore, 1) := by decide +kernel
theorem dX11_maps_17 : decode cX11_maps 17 = .ok (.iinc 1 1, 3) := by decide +kernel
theorem dX11_maps_20 : decode cX11_maps 20 = .ok (.goto (-18), 3) := by decide +kernel
theorem dX11_maps_23 : decode cX11_maps 23 = .ok (.iconst 0, 1) := by decide +kernel
theorem dX11_maps_24 : decode cX11_maps 24 = .ok (.istore_n 1, 1) := by decide +kernel
theorem dX11_maps_25 : decode cX11_maps 25 = .ok (.iload_n 1, 1) := by decide +kernel
theorem dX11_maps_26 : decode cX11_maps 26 = .ok (.aload_n 0, 1) := by decide +kernel
theorem dX11_maps_27 : decode cX11_maps 27 = .ok (.getfield 127, 3) := by decide +kernel
theorem dX11_maps_30 : decode cX11_maps 30 = .ok (.if_icmp .ge 133, 3) := by decide +kernel
theorem dX11_maps_33 : decode cX11_maps 33 = .ok (.aload_n 0, 1) := by decide +kernel
theorem dX11_maps_34 : decode cX11_maps 34 = .ok (.getfield 28, 3) := by decide +kernel
theorem dX11_maps_37 : decode cX11_maps 37 = .ok (.iconst 4, 1) := by decide +kernel
theorem dX11_maps_38 : decode cX11_maps 38 = .ok (.iload_n 1, 1) := by decide +kernel
theorem dX11_maps_39 : decode cX11_maps 39 = .ok (.imul, 1) := by decide +kernel
theorem dX11_maps_40 : decode cX11_maps 40 = .ok (.iaload, 1) := by decide +kernel
theorem dX11_maps_41 : decode cX11_maps 41 = .ok (.istore_n 2, 1) := by decide +kernel
theorem dX11_maps_42 : decode cX11_maps 42 = .ok (.aload_n 0, 1) := by decide +kernel
theorem dX11_maps_43 : decode cX11_maps 43 = .ok (.getfield 28, 3) := by decide +kernel
theorem dX11_maps_46 : decode cX11_maps 46 = .ok (.iconst 4, 1) := by decide +kernel
theorem dX11_maps_47 : decode cX11_maps 47 = .ok (.iload_n 1, 1) := by decide +kernel
theorem dX11_maps_48 : decode cX11_maps 48 = .ok (.imul, 1) := by decide +kernel
theorem dX11_maps_49 : decode cX11_maps 49 = .ok (.iconst 1, 1) := by decide +kernel
theorem dX11_maps_50 : decode cX11_maps 50 = .ok (.iadd, 1) := by decide +kernel
theorem dX11_maps_51 : decode cX11_maps 51 = .ok (.iaload, 1) := by decide +kernel
theorem dX11_maps_52 : decode cX11_maps 52 = .ok (.istore_n 3, 1) := by decide +kernel
theorem dX11_maps_53 : decode cX11_maps 53 = .ok (.aload_n 0, 1) := by decide +kernel
theorem dX11_maps_54 : decode cX11_maps 54 = .ok (.getfield 28, 3) := by decide +kernel
theorem dX11_maps_57 : decode cX11_maps 57 = .ok (.iconst 4, 1) := by decide +kernel
theorem dX11_maps_58 : decode cX11_maps 58 = .ok (.iload_n 1, 1) := by decide +kernel
theorem dX11_maps_59 : decode cX11_maps 59 = .ok (.imul, 1) := by decide +kernel
theorem dX11_maps_60 : decode cX11_maps 60 = .ok (.iconst 2, 1) := by decide +kernel
theorem dX11_maps_61 : decode cX11_maps 61 = .ok (.iadd, 1) := by decide +kernel
theorem dX11_maps_62 : decode cX11_maps 62 = .ok (.iaload, 1) := by decide +kernel
theorem dX11_maps_63 : decode cX11_maps 63 = .ok (.iconst 3, 1) := by decide +kernel
theorem dX11_maps_64 : decode cX11_maps 64 = .ok (.aload_n 0, 1) := by decide +kernel
theorem dX11_maps_65 : decode cX11_maps 65 = .ok (.getfield 28, 3) := by decide +kernel
theorem dX11_maps_68 : decode cX11_maps 68 = .ok (.iconst 4, 1) := by decide +kernel
theorem dX11_maps_69 : decode cX11_maps 69 = .ok (.iload_n 1, 1) := by decide +kernel
theorem dX11_maps_70 : decode cX11_maps 70 = .ok (.imul, 1) := by decide +kernel
theorem dX11_maps_71 : decode cX11_maps 71 = .ok (.iconst 3, 1) := by decide +kernel
theorem dX11_maps_72 : decode cX11_maps 72 = .ok (.iadd, 1) := by decide +kernel
theorem dX11_maps_73 : decode cX11_maps 73 = .ok (.iaload, 1) := by decide +kernel
theorem dX11_maps_74 : decode cX11_maps 74 = .ok (.isub, 1) := by decide +kernel
theorem dX11_maps_75 : decode cX11_maps 75 = .ok (.imul, 1) := by decide +kernel
theorem dX11_maps_76 : decode cX11_maps 76 = .ok (.istore 4, 2) := by decide +kernel
theorem dX11_maps_78 : decode cX11_maps 78 = .ok (.aload_n 0, 1) := by decide +kernel
theorem dX11_maps_79 : decode cX11_maps 79 = .ok (.getfield 28, 3) := by decide +kernel
theorem dX11_maps_82 : decode cX11_maps 82 = .ok (.iconst 4, 1) := by decide +kernel
theorem dX11_maps_83 : decode cX11_maps 83 = .ok (.iload_n 1, 1) := by decide +kernel
theorem dX11_maps_84 : decode cX11_maps 84 = .ok (.imul, 1) := by decide +kernel
theorem dX11_maps_85 : decode cX11_maps 85 = .ok (.iconst 2, 1) := by decide +kernel
theorem dX11_maps_86 : decode cX11_maps 86 = .ok (.iadd, 1) := by decide +kernel
theorem dX11_maps_87 : decode cX11_maps 87 = .ok (.iaload, 1) := by decide +kernel
theorem dX11_maps_88 : decode cX11_maps 88 = .ok (.iconst 1, 1) := by decide +kernel
theorem dX11_maps_89 : decode cX11_maps 89 = .ok (.aload_n 0, 1) := by decide +kernel
theorem dX11_maps_90 : decode cX11_maps 90 = .ok (.getfield 28, 3) := by decide +kernel
theorem dX11_maps_93 : decode cX11_maps 93 = .ok (.iconst 4, 1) := by decide +kernel
theorem dX11_maps_94 : decode cX11_maps 94 = .ok (.iload_n 1, 1) := by decide +kernel
theorem dX11_maps_95 : decode cX11_maps 95 = .ok (.imul, 1) := by decide +kernel
theorem dX11_maps_96 : decode cX11_maps 96 = .ok (.iconst 3, 1) := by decide +kernel
theorem dX11_maps_97 : decode cX11_maps 97 = .ok (.iadd, 1) := by decide +kernel
theorem dX11_maps_98 : decode cX11_maps 98 = .ok (.iaload, 1) := by decide +kernel
theorem dX11_maps_99 : decode cX11_maps 99 = .ok (.iadd, 1) := by decide +kernel
theorem dX11_maps_100 : decode cX11_maps 100 = .ok (.imul, 1) := by decide +kernel
theorem dX11_maps_101 : decode cX11_maps 101 = .ok (.istore 5, 2) := by decide +kernel
theorem dX11_maps_103 : decode cX11_maps 103 = .ok (.aload_n 0, 1) := by decide +kernel
theorem dX11_maps_104 : decode cX11_maps 104 = .ok (.getfield 40, 3) := by decide +kernel
theorem dX11_maps_107 : decode cX11_maps 107 = .ok (.bipush 8, 2) := by decide +kernel
theorem dX11_maps_109 : decode cX11_maps 109 = .ok (.iload_n 2, 1) := by decide +kernel
theorem dX11_maps_110 : decode cX11_maps 110 = .ok (.imul, 1) := by decide +kernel
theorem dX11_maps_111 : decode cX11_maps 111 = .ok (.iload_n 3, 1) := by decide +kernel
theorem dX11_maps_112 : decode cX11_maps 112 = .ok (.iadd, 1) := by decide +kernel
theorem dX11_maps_113 : decode cX11_maps 113 = .ok (.iload 4, 2) := by decide +kernel
theorem dX11_maps_115 : decode cX11_maps 115 = .ok (.aload_n 0, 1) := by decide +kernel
theorem dX11_maps_116 : decode cX11_maps 116 = .ok (.getfield 40, 3) := by decide +kernel
theorem dX11_maps_119 : decode cX11_maps 119 = .ok (.bipush 8, 2) := by decide +kernel
theorem dX11_maps_121 : decode cX11_maps 121 = .ok (.iload_n 2, 1) := by decide +kernel
theorem dX11_maps_122 : decode cX11_maps 122 = .ok (.imul, 1) := by decide +kernel
theorem dX11_maps_123 : decode cX11_maps 123 = .ok (.iload_n 3, 1) := by decide +kernel
theorem dX11_maps_124 : decode cX11_maps 124 = .ok (.iadd, 1) := by decide +kernel
theorem dX11_maps_125 : decode cX11_maps 125 = .ok (.iaload, 1) := by decide +kernel
theorem dX11_maps_126 : decode cX11_maps 126 = .ok (.invokestatic 171, 3) := by decide +kernel
theorem dX11_maps_129 : decode cX11_maps 129 = .ok (.iastore, 1) := by decide +kernel
theorem dX11_maps_130 : decode cX11_maps 130 = .ok (.aload_n 0, 1) := by decide +kernel
theorem dX11_maps_131 : decode cX11_maps 131 = .ok (.getfield 40, 3) := by decide +kernel
theorem dX11_maps_134 : decode cX11_maps 134 = .ok (.bipush 8, 2) := by decide +kernel
theorem dX11_maps_136 : decode cX11_maps 136 = .ok (.iload_n 3, 1) := by decide +kernel
theorem dX11_maps_137 : decode cX11_maps 137 = .ok (.imul, 1) := by decide +kernel
theorem dX11_maps_138 : decode cX11_maps 138 = .ok (.iload_n 2, 1) := by decide +kernel
theorem dX11_maps_139 : decode cX11_maps 139 = .ok (.iadd, 1) := by decide +kernel
theorem dX11_maps_140 : decode cX11_maps 140 = .ok (.iload 5, 2) := by decide +kernel
theorem dX11_maps_142 : decode cX11_maps 142 = .ok (.aload_n 0, 1) := by decide +kernel
theorem dX11_maps_143 : decode cX11_maps 143 = .ok (.getfield 40, 3) := by decide +kernel
theorem dX11_maps_146 : decode cX11_maps 146 = .ok (.bipush 8, 2) := by decide +kernel
theorem dX11_maps_148 : decode cX11_maps 148 = .ok (.iload_n 3, 1) := by decide +kernel
theorem dX11_maps_149 : decode cX11_maps 149 = .ok (.imul, 1) := by decide +kernel
theorem dX11_maps_150 : decode cX11_maps 150 = .ok (.iload_n 2, 1) := by decide +kernel
theorem dX11_maps_151 : decode cX11_maps 151 = .ok (.iadd, 1) := by decide +kernel
theorem dX11_maps_152 : decode cX11_maps 152 = .ok (.iaload, 1) := by decide +kernel
theorem dX11_maps_153 : decode cX11_maps 153 = .ok (.invokestatic 171, 3) := by decide +kernel
theorem dX11_maps_156 : decode cX11_maps 156 = .ok (.iastore, 1) := by decide +kernel
theorem dX11_maps_157 : decode cX11_maps 157 = .ok (.iinc 1 1, 3) := by decide +kernel
theorem dX11_maps_160 : decode cX11_maps 160 = .ok (.goto (-135), 3) := by decide +kernel
theorem dX11_maps_163 : decode cX11_maps 163 = .ok (.iconst 0, 1) := by decide +kernel
theorem dX11_maps_164 : decode cX11_maps 164 = .ok (.istore_n 1, 1) := by decide +kernel
theorem dX11_maps_165 : decode cX11_maps 165 = .ok (.iload_n 1, 1) := by decide +kernel
theorem dX11_maps_166 : decode cX11_maps 166 = .ok (.bipush 64, 2) := by decide +kernel
theorem dX11_maps_168 : decode cX11_maps 168 = .ok (.if_icmp .ge 36, 3) := by decide +kernel
theorem dX11_maps_171 : decode cX11_maps 171 = .ok (.aload_n 0, 1) := by decide +kernel
theorem dX11_maps_172 : decode cX11_maps 172 = .ok (.getfield 43, 3) := by decide +kernel
theorem dX11_maps_175 : decode cX11_maps 175 = .ok (.iload_n 1, 1) := by decide +kernel
theorem dX11_maps_176 : decode cX11_maps 176 = .ok (.iload_n 1, 1) := by decide +kernel
theorem dX11_maps_177 : decode cX11_maps 177 = .ok (.bipush 8, 2) := by decide +kernel
theorem dX11_maps_179 : decode cX11_maps 179 = .ok (.idiv, 1) := by decide +kernel
theorem dX11_maps_180 : decode cX11_maps 180 = .ok (.iload_n 1, 1) := by decide +kernel
theorem dX11_maps_181 : decode cX11_maps 181 = .ok (.bipush 8, 2) := by decide +kernel
theorem dX11_maps_183 : decode cX11_maps 183 = .ok (.irem, 1) := by decide +kernel
theorem dX11_maps_184 : decode cX11_maps 184 = .ok (.if_icmp .ne 7, 3) := by decide +kernel
theorem dX11_maps_187 : decode cX11_maps 187 = .ok (.iconst 0, 1) := by decide +kernel
theorem dX11_maps_188 : decode cX11_maps 188 = .ok (.goto 9, 3) := by decide +kernel
theorem dX11_maps_191 : decode cX11_maps 191 = .ok (.aload_n 0, 1) := by decide +kernel
theorem dX11_maps_192 : decode cX11_maps 192 = .ok (.getfield 40, 3) := by decide +kernel
theorem dX11_maps_195 : decode cX11_maps 195 = .ok (.iload_n 1, 1) := by decide +kernel
theorem dX11_maps_196 : decode cX11_maps 196 = .ok (.iaload, 1) := by decide +kernel
theorem dX11_maps_197 : decode cX11_maps 197 = .ok (.iastore, 1) := by decide +kernel
theorem dX11_maps_198 : decode cX11_maps 198 = .ok (.iinc 1 1, 3) := by decide +kernel
theorem dX11_maps_201 : decode cX11_maps 201 = .ok (.goto (-36), 3) := by decide +kernel
theorem dX11_maps_204 : decode cX11_maps 204 = .ok (.iconst 0, 1) := by decide +kernel
theorem dX11_maps_205 : decode cX11_maps 205 = .ok (.istore_n 1, 1) := by decide +kernel
theorem dX11_maps_206 : decode cX11_maps 206 = .ok (.iload_n 1, 1) := by decide +kernel
theorem dX11_maps_207 : decode cX11_maps 207 = .ok (.bipush 8, 2) := by decide +kernel
theorem dX11_maps_209 : decode cX11_maps 209 = .ok (.if_icmp .ge 67, 3) := by decide +kernel
theorem dX11_maps_212 : decode cX11_maps 212 = .ok (.iconst 0, 1) := by decide +kernel
theorem dX11_maps_213 : decode cX11_maps 213 = .ok (.istore_n 2, 1) := by decide +kernel
theorem dX11_maps_214 : decode cX11_maps 214 = .ok (.iload_n 2, 1) := by decide +kernel
theorem dX11_maps_215 : decode cX11_maps 215 = .ok (.bipush 64, 2) := by decide +kernel
theorem dX11_maps_217 : decode cX11_maps 217 = .ok (.if_icmp .ge 53, 3) := by decide +kernel
theorem dX11_maps_220 : decode cX11_maps 220 = .ok (.aload_n 0, 1) := by decide +kernel
theorem dX11_maps_221 : decode cX11_maps 221 = .ok (.getfield 43, 3) := by decide +kernel
theorem dX11_maps_224 : decode cX11_maps 224 = .ok (.iload_n 2, 1) := by decide +kernel
theorem dX11_maps_225 : decode cX11_maps 225 = .ok (.aload_n 0, 1) := by decide +kernel
theorem dX11_maps_226 : decode cX11_maps 226 = .ok (.getfield 43, 3) := by decide +kernel
theorem dX11_maps_229 : decode cX11_maps 229 = .ok (.bipush 8, 2) := by decide +kernel
theorem dX11_maps_231 : decode cX11_maps 231 = .ok (.iload_n 2, 1) := by decide +kernel
theorem dX11_maps_232 : decode cX11_maps 232 = .ok (.bipush 8, 2) := by decide +kernel
theorem dX11_maps_234 : decode cX11_maps 234 = .ok (.idiv, 1) := by decide +kernel
theorem dX11_maps_235 : decode cX11_maps 235 = .ok (.imul, 1) := by decide +kernel
theorem dX11_maps_236 : decode cX11_maps 236 = .ok (.iload_n 1, 1) := by decide +kernel
end
section
theorem dX11_maps_237 : decode cX11_maps 237 = .ok (.iadd, 1) := by decide +kernel
theorem dX11_maps_238 : decode cX11_maps 238 = .ok (.iaload, 1) := by decide +kernel
theorem dX11_maps_239 : decode cX11_maps 239 = .ok (.aload_n 0, 1) := by decide +kernel
theorem dX11_maps_240 : decode cX11_maps 240 = .ok (.getfield 43, 3) := by decide +kernel
theorem dX11_maps_243 : decode cX11_maps 243 = .ok (.bipush 8, 2) := by decide +kernel
theorem dX11_maps_245 : decode cX11_maps 245 = .ok (.iload_n 1, 1) := by decide +kernel
theorem dX11_maps_246 : decode cX11_maps 246 = .ok (.imul, 1) := by decide +kernel
theorem dX11_maps_247 : decode cX11_maps 247 = .ok (.iload_n 2, 1) := by decide +kernel
theorem dX11_maps_248 : decode cX11_maps 248 = .ok (.bipush 8, 2) := by decide +kernel
theorem dX11_maps_250 : decode cX11_maps 250 = .ok (.irem, 1) := by decide +kernel
theorem dX11_maps_251 : decode cX11_maps 251 = .ok (.iadd, 1) := by decide +kernel
theorem dX11_maps_252 : decode cX11_maps 252 = .ok (.iaload, 1) := by decide +kernel
theorem dX11_maps_253 : decode cX11_maps 253 = .ok (.iadd, 1) := by decide +kernel
theorem dX11_maps_254 : decode cX11_maps 254 = .ok (.aload_n 0, 1) := by decide +kernel
theorem dX11_maps_255 : decode cX11_maps 255 = .ok (.getfield 43, 3) := by decide +kernel
theorem dX11_maps_258 : decode cX11_maps 258 = .ok (.iload_n 2, 1) := by decide +kernel
theorem dX11_maps_259 : decode cX11_maps 259 = .ok (.iaload, 1) := by decide +kernel
theorem dX11_maps_260 : decode cX11_maps 260 = .ok (.invokestatic 171, 3) := by decide +kernel
theorem dX11_maps_263 : decode cX11_maps 263 = .ok (.iastore, 1) := by decide +kernel
theorem dX11_maps_264 : decode cX11_maps 264 = .ok (.iinc 2 1, 3) := by decide +kernel
theorem dX11_maps_267 : decode cX11_maps 267 = .ok (.goto (-53), 3) := by decide +kernel
theorem dX11_maps_270 : decode cX11_maps 270 = .ok (.iinc 1 1, 3) := by decide +kernel
theorem dX11_maps_273 : decode cX11_maps 273 = .ok (.goto (-67), 3) := by decide +kernel
theorem dX11_maps_276 : decode cX11_maps 276 = .ok (.return_, 1) := by decide +kernel
theorem dX11_next_0 : decode cX11_next 0 = .ok (.iconst 0, 1) := by decide +kernel
theorem dX11_next_1 : decode cX11_next 1 = .ok (.istore_n 3, 1) := by decide +kernel
theorem dX11_next_2 : decode cX11_next 2 = .ok (.iload_n 3, 1) := by decide +kernel
theorem dX11_next_3 : decode cX11_next 3 = .ok (.bipush 8, 2) := by decide +kernel
theorem dX11_next_5 : decode cX11_next 5 = .ok (.if_icmp .ge 65, 3) := by decide +kernel
theorem dX11_next_8 : decode cX11_next 8 = .ok (.aload_n 0, 1) := by decide +kernel
theorem dX11_next_9 : decode cX11_next 9 = .ok (.getfield 40, 3) := by decide +kernel
theorem dX11_next_12 : decode cX11_next 12 = .ok (.bipush 8, 2) := by decide +kernel
theorem dX11_next_14 : decode cX11_next 14 = .ok (.iload_n 1, 1) := by decide +kernel
theorem dX11_next_15 : decode cX11_next 15 = .ok (.imul, 1) := by decide +kernel
theorem dX11_next_16 : decode cX11_next 16 = .ok (.iload_n 3, 1) := by decide +kernel
theorem dX11_next_17 : decode cX11_next 17 = .ok (.iadd, 1) := by decide +kernel
theorem dX11_next_18 : decode cX11_next 18 = .ok (.iaload, 1) := by decide +kernel
theorem dX11_next_19 : decode cX11_next 19 = .ok (.sipush 9999, 3) := by decide +kernel
theorem dX11_next_22 : decode cX11_next 22 = .ok (.if_icmp .ge 42, 3) := by decide +kernel
theorem dX11_next_25 : decode cX11_next 25 = .ok (.aload_n 0, 1) := by decide +kernel
theorem dX11_next_26 : decode cX11_next 26 = .ok (.getfield 40, 3) := by decide +kernel
theorem dX11_next_29 : decode cX11_next 29 = .ok (.bipush 8, 2) := by decide +kernel
theorem dX11_next_31 : decode cX11_next 31 = .ok (.iload_n 1, 1) := by decide +kernel
theorem dX11_next_32 : decode cX11_next 32 = .ok (.imul, 1) := by decide +kernel
theorem dX11_next_33 : decode cX11_next 33 = .ok (.iload_n 3, 1) := by decide +kernel
theorem dX11_next_34 : decode cX11_next 34 = .ok (.iadd, 1) := by decide +kernel
theorem dX11_next_35 : decode cX11_next 35 = .ok (.iaload, 1) := by decide +kernel
theorem dX11_next_36 : decode cX11_next 36 = .ok (.aload_n 0, 1) := by decide +kernel
theorem dX11_next_37 : decode cX11_next 37 = .ok (.getfield 43, 3) := by decide +kernel
theorem dX11_next_40 : decode cX11_next 40 = .ok (.bipush 8, 2) := by decide +kernel
theorem dX11_next_42 : decode cX11_next 42 = .ok (.iload_n 3, 1) := by decide +kernel
theorem dX11_next_43 : decode cX11_next 43 = .ok (.imul, 1) := by decide +kernel
theorem dX11_next_44 : decode cX11_next 44 = .ok (.iload_n 2, 1) := by decide +kernel
theorem dX11_next_45 : decode cX11_next 45 = .ok (.iadd, 1) := by decide +kernel
theorem dX11_next_46 : decode cX11_next 46 = .ok (.iaload, 1) := by decide +kernel
theorem dX11_next_47 : decode cX11_next 47 = .ok (.iadd, 1) := by decide +kernel
theorem dX11_next_48 : decode cX11_next 48 = .ok (.aload_n 0, 1) := by decide +kernel
theorem dX11_next_49 : decode cX11_next 49 = .ok (.getfield 43, 3) := by decide +kernel
theorem dX11_next_52 : decode cX11_next 52 = .ok (.bipush 8, 2) := by decide +kernel
theorem dX11_next_54 : decode cX11_next 54 = .ok (.iload_n 1, 1) := by decide +kernel
theorem dX11_next_55 : decode cX11_next 55 = .ok (.imul, 1) := by decide +kernel
theorem dX11_next_56 : decode cX11_next 56 = .ok (.iload_n 2, 1) := by decide +kernel
theorem dX11_next_57 : decode cX11_next 57 = .ok (.iadd, 1) := by decide +kernel
theorem dX11_next_58 : decode cX11_next 58 = .ok (.iaload, 1) := by decide +kernel
theorem dX11_next_59 : decode cX11_next 59 = .ok (.if_icmp .ne 5, 3) := by decide +kernel
theorem dX11_next_62 : decode cX11_next 62 = .ok (.iload_n 3, 1) := by decide +kernel
theorem dX11_next_63 : decode cX11_next 63 = .ok (.ireturn, 1) := by decide +kernel
theorem dX11_next_64 : decode cX11_next 64 = .ok (.iinc 3 1, 3) := by decide +kernel
theorem dX11_next_67 : decode cX11_next 67 = .ok (.goto (-65), 3) := by decide +kernel
theorem dX11_next_70 : decode cX11_next 70 = .ok (.iconst (-1), 1) := by decide +kernel
theorem dX11_next_71 : decode cX11_next 71 = .ok (.ireturn, 1) := by decide +kernel
theorem dX11_isAnswer_0 : decode cX11_isAnswer 0 = .ok (.iconst 0, 1) := by decide +kernel
theorem dX11_isAnswer_1 : decode cX11_isAnswer 1 = .ok (.istore_n 3, 1) := by decide +kernel
theorem dX11_isAnswer_2 : decode cX11_isAnswer 2 = .ok (.iconst 0, 1) := by decide +kernel
theorem dX11_isAnswer_3 : decode cX11_isAnswer 3 = .ok (.istore 4, 2) := by decide +kernel
theorem dX11_isAnswer_5 : decode cX11_isAnswer 5 = .ok (.iload 4, 2) := by decide +kernel
theorem dX11_isAnswer_7 : decode cX11_isAnswer 7 = .ok (.aload_n 0, 1) := by decide +kernel
theorem dX11_isAnswer_8 : decode cX11_isAnswer 8 = .ok (.getfield 166, 3) := by decide +kernel
theorem dX11_isAnswer_11 : decode cX11_isAnswer 11 = .ok (.if_icmp .ge 59, 3) := by decide +kernel
theorem dX11_isAnswer_14 : decode cX11_isAnswer 14 = .ok (.iload_n 3, 1) := by decide +kernel
theorem dX11_isAnswer_15 : decode cX11_isAnswer 15 = .ok (.ifCond .ne 43, 3) := by decide +kernel
theorem dX11_isAnswer_18 : decode cX11_isAnswer 18 = .ok (.aload_n 0, 1) := by decide +kernel
theorem dX11_isAnswer_19 : decode cX11_isAnswer 19 = .ok (.getfield 37, 3) := by decide +kernel
theorem dX11_isAnswer_22 : decode cX11_isAnswer 22 = .ok (.iconst 2, 1) := by decide +kernel
theorem dX11_isAnswer_23 : decode cX11_isAnswer 23 = .ok (.iload 4, 2) := by decide +kernel
theorem dX11_isAnswer_25 : decode cX11_isAnswer 25 = .ok (.imul, 1) := by decide +kernel
theorem dX11_isAnswer_26 : decode cX11_isAnswer 26 = .ok (.iaload, 1) := by decide +kernel
theorem dX11_isAnswer_27 : decode cX11_isAnswer 27 = .ok (.iload_n 1, 1) := by decide +kernel
theorem dX11_isAnswer_28 : decode cX11_isAnswer 28 = .ok (.if_icmp .ne 34, 3) := by decide +kernel
theorem dX11_isAnswer_31 : decode cX11_isAnswer 31 = .ok (.aload_n 0, 1) := by decide +kernel
theorem dX11_isAnswer_32 : decode cX11_isAnswer 32 = .ok (.getfield 37, 3) := by decide +kernel
theorem dX11_isAnswer_35 : decode cX11_isAnswer 35 = .ok (.iconst 2, 1) := by decide +kernel
theorem dX11_isAnswer_36 : decode cX11_isAnswer 36 = .ok (.iload 4, 2) := by decide +kernel
theorem dX11_isAnswer_38 : decode cX11_isAnswer 38 = .ok (.imul, 1) := by decide +kernel
theorem dX11_isAnswer_39 : decode cX11_isAnswer 39 = .ok (.iconst 1, 1) := by decide +kernel
theorem dX11_isAnswer_40 : decode cX11_isAnswer 40 = .ok (.iadd, 1) := by decide +kernel
theorem dX11_isAnswer_41 : decode cX11_isAnswer 41 = .ok (.iaload, 1) := by decide +kernel
theorem dX11_isAnswer_42 : decode cX11_isAnswer 42 = .ok (.iload_n 2, 1) := by decide +kernel
theorem dX11_isAnswer_43 : decode cX11_isAnswer 43 = .ok (.if_icmp .ne 19, 3) := by decide +kernel
theorem dX11_isAnswer_46 : decode cX11_isAnswer 46 = .ok (.aload_n 0, 1) := by decide +kernel
theorem dX11_isAnswer_47 : decode cX11_isAnswer 47 = .ok (.getfield 174, 3) := by decide +kernel
theorem dX11_isAnswer_50 : decode cX11_isAnswer 50 = .ok (.iload 4, 2) := by decide +kernel
theorem dX11_isAnswer_52 : decode cX11_isAnswer 52 = .ok (.invokestatic 177, 3) := by decide +kernel
theorem dX11_isAnswer_55 : decode cX11_isAnswer 55 = .ok (.ifCond .ne 7, 3) := by decide +kernel
theorem dX11_isAnswer_58 : decode cX11_isAnswer 58 = .ok (.iconst 1, 1) := by decide +kernel
theorem dX11_isAnswer_59 : decode cX11_isAnswer 59 = .ok (.goto 4, 3) := by decide +kernel
theorem dX11_isAnswer_62 : decode cX11_isAnswer 62 = .ok (.iconst 0, 1) := by decide +kernel
theorem dX11_isAnswer_63 : decode cX11_isAnswer 63 = .ok (.istore_n 3, 1) := by decide +kernel
theorem dX11_isAnswer_64 : decode cX11_isAnswer 64 = .ok (.iinc 4 1, 3) := by decide +kernel
theorem dX11_isAnswer_67 : decode cX11_isAnswer 67 = .ok (.goto (-62), 3) := by decide +kernel
theorem dX11_isAnswer_70 : decode cX11_isAnswer 70 = .ok (.iload_n 3, 1) := by decide +kernel
theorem dX11_isAnswer_71 : decode cX11_isAnswer 71 = .ok (.ireturn, 1) := by decide +kernel
theorem dX11_isTold_0 : decode cX11_isTold 0 = .ok (.aload_n 0, 1) := by decide +kernel
theorem dX11_isTold_1 : decode cX11_isTold 1 = .ok (.getfield 31, 3) := by decide +kernel
theorem dX11_isTold_4 : decode cX11_isTold 4 = .ok (.iconst 5, 1) := by decide +kernel
theorem dX11_isTold_5 : decode cX11_isTold 5 = .ok (.iload_n 1, 1) := by decide +kernel
theorem dX11_isTold_6 : decode cX11_isTold 6 = .ok (.imul, 1) := by decide +kernel
theorem dX11_isTold_7 : decode cX11_isTold 7 = .ok (.iconst 2, 1) := by decide +kernel
theorem dX11_isTold_8 : decode cX11_isTold 8 = .ok (.iadd, 1) := by decide +kernel
theorem dX11_isTold_9 : decode cX11_isTold 9 = .ok (.iaload, 1) := by decide +kernel
theorem dX11_isTold_10 : decode cX11_isTold 10 = .ok (.istore 4, 2) := by decide +kernel
theorem dX11_isTold_12 : decode cX11_isTold 12 = .ok (.iload 4, 2) := by decide +kernel
theorem dX11_isTold_14 : decode cX11_isTold 14 = .ok (.iconst 2, 1) := by decide +kernel
theorem dX11_isTold_15 : decode cX11_isTold 15 = .ok (.if_icmp .ge 32, 3) := by decide +kernel
theorem dX11_isTold_18 : decode cX11_isTold 18 = .ok (.aload_n 0, 1) := by decide +kernel
theorem dX11_isTold_19 : decode cX11_isTold 19 = .ok (.iload_n 2, 1) := by decide +kernel
theorem dX11_isTold_20 : decode cX11_isTold 20 = .ok (.iload_n 3, 1) := by decide +kernel
theorem dX11_isTold_21 : decode cX11_isTold 21 = .ok (.invokevirtual 181, 3) := by decide +kernel
theorem dX11_isTold_24 : decode cX11_isTold 24 = .ok (.ifCond .ne 19, 3) := by decide +kernel
theorem dX11_isTold_27 : decode cX11_isTold 27 = .ok (.iload 4, 2) := by decide +kernel
theorem dX11_isTold_29 : decode cX11_isTold 29 = .ok (.iconst 1, 1) := by decide +kernel
theorem dX11_isTold_30 : decode cX11_isTold 30 = .ok (.if_icmp .ne 17, 3) := by decide +kernel
theorem dX11_isTold_33 : decode cX11_isTold 33 = .ok (.aload_n 0, 1) := by decide +kernel
theorem dX11_isTold_34 : decode cX11_isTold 34 = .ok (.getfield 67, 3) := by decide +kernel
theorem dX11_isTold_37 : decode cX11_isTold 37 = .ok (.iload_n 3, 1) := by decide +kernel
theorem dX11_isTold_38 : decode cX11_isTold 38 = .ok (.iaload, 1) := by decide +kernel
theorem dX11_isTold_39 : decode cX11_isTold 39 = .ok (.iconst 1, 1) := by decide +kernel
theorem dX11_isTold_40 : decode cX11_isTold 40 = .ok (.if_icmp .le 7, 3) := by decide +kernel
theorem dX11_isTold_43 : decode cX11_isTold 43 = .ok (.iconst 1, 1) := by decide +kernel
theorem dX11_isTold_44 : decode cX11_isTold 44 = .ok (.goto 4, 3) := by decide +kernel
theorem dX11_isTold_47 : decode cX11_isTold 47 = .ok (.iconst 0, 1) := by decide +kernel
theorem dX11_isTold_48 : decode cX11_isTold 48 = .ok (.ireturn, 1) := by decide +kernel
theorem dX11_stays_0 : decode cX11_stays 0 = .ok (.aload_n 0, 1) := by decide +kernel
theorem dX11_stays_1 : decode cX11_stays 1 = .ok (.getfield 46, 3) := by decide +kernel
theorem dX11_stays_4 : decode cX11_stays 4 = .ok (.iload_n 1, 1) := by decide +kernel
theorem dX11_stays_5 : decode cX11_stays 5 = .ok (.iload_n 3, 1) := by decide +kernel
theorem dX11_stays_6 : decode cX11_stays 6 = .ok (.iastore, 1) := by decide +kernel
theorem dX11_stays_7 : decode cX11_stays 7 = .ok (.aload_n 0, 1) := by decide +kernel
theorem dX11_stays_8 : decode cX11_stays 8 = .ok (.getfield 61, 3) := by decide +kernel
theorem dX11_stays_11 : decode cX11_stays 11 = .ok (.iload_n 1, 1) := by decide +kernel
theorem dX11_stays_12 : decode cX11_stays 12 = .ok (.iload_n 2, 1) := by decide +kernel
theorem dX11_stays_13 : decode cX11_stays 13 = .ok (.iastore, 1) := by decide +kernel
theorem dX11_stays_14 : decode cX11_stays 14 = .ok (.aload_n 0, 1) := by decide +kernel
theorem dX11_stays_15 : decode cX11_stays 15 = .ok (.getfield 55, 3) := by decide +kernel
theorem dX11_stays_18 : decode cX11_stays 18 = .ok (.iload_n 1, 1) := by decide +kernel
theorem dX11_stays_19 : decode cX11_stays 19 = .ok (.iconst (-1), 1) := by decide +kernel
theorem dX11_stays_20 : decode cX11_stays 20 = .ok (.iastore, 1) := by decide +kernel
theorem dX11_stays_21 : decode cX11_stays 21 = .ok (.return_, 1) := by decide +kernel
theorem dX11_goesOn_0 : decode cX11_goesOn 0 = .ok (.aload_n 0, 1) := by decide +kernel
theorem dX11_goesOn_1 : decode cX11_goesOn 1 = .ok (.getfield 49, 3) := by decide +kernel
theorem dX11_goesOn_4 : decode cX11_goesOn 4 = .ok (.iload_n 1, 1) := by decide +kernel
theorem dX11_goesOn_5 : decode cX11_goesOn 5 = .ok (.iaload, 1) := by decide +kernel
theorem dX11_goesOn_6 : decode cX11_goesOn 6 = .ok (.istore_n 3, 1) := by decide +kernel
theorem dX11_goesOn_7 : decode cX11_goesOn 7 = .ok (.aload_n 0, 1) := by decide +kernel
theorem dX11_goesOn_8 : decode cX11_goesOn 8 = .ok (.getfield 31, 3) := by decide +kernel
theorem dX11_goesOn_11 : decode cX11_goesOn 11 = .ok (.iconst 5, 1) := by decide +kernel
theorem dX11_goesOn_12 : decode cX11_goesOn 12 = .ok (.iload_n 1, 1) := by decide +kernel
theorem dX11_goesOn_13 : decode cX11_goesOn 13 = .ok (.imul, 1) := by decide +kernel
theorem dX11_goesOn_14 : decode cX11_goesOn 14 = .ok (.iconst 1, 1) := by decide +kernel
theorem dX11_goesOn_15 : decode cX11_goesOn 15 = .ok (.iadd, 1) := by decide +kernel
theorem dX11_goesOn_16 : decode cX11_goesOn 16 = .ok (.iaload, 1) := by decide +kernel
theorem dX11_goesOn_17 : decode cX11_goesOn 17 = .ok (.istore 4, 2) := by decide +kernel
theorem dX11_goesOn_19 : decode cX11_goesOn 19 = .ok (.iload_n 3, 1) := by decide +kernel
theorem dX11_goesOn_20 : decode cX11_goesOn 20 = .ok (.iload 4, 2) := by decide +kernel
theorem dX11_goesOn_22 : decode cX11_goesOn 22 = .ok (.if_icmp .ne 13, 3) := by decide +kernel
theorem dX11_goesOn_25 : decode cX11_goesOn 25 = .ok (.aload_n 0, 1) := by decide +kernel
theorem dX11_goesOn_26 : decode cX11_goesOn 26 = .ok (.iload_n 1, 1) := by decide +kernel
theorem dX11_goesOn_27 : decode cX11_goesOn 27 = .ok (.iload_n 2, 1) := by decide +kernel
theorem dX11_goesOn_28 : decode cX11_goesOn 28 = .ok (.iconst 2, 1) := by decide +kernel
theorem dX11_goesOn_29 : decode cX11_goesOn 29 = .ok (.invokevirtual 184, 3) := by decide +kernel
theorem dX11_goesOn_32 : decode cX11_goesOn 32 = .ok (.goto 159, 3) := by decide +kernel
theorem dX11_goesOn_35 : decode cX11_goesOn 35 = .ok (.aload_n 0, 1) := by decide +kernel
theorem dX11_goesOn_36 : decode cX11_goesOn 36 = .ok (.iload_n 1, 1) := by decide +kernel
theorem dX11_goesOn_37 : decode cX11_goesOn 37 = .ok (.iload_n 2, 1) := by decide +kernel
theorem dX11_goesOn_38 : decode cX11_goesOn 38 = .ok (.iload_n 3, 1) := by decide +kernel
theorem dX11_goesOn_39 : decode cX11_goesOn 39 = .ok (.invokevirtual 188, 3) := by decide +kernel
theorem dX11_goesOn_42 : decode cX11_goesOn 42 = .ok (.ifCond .eq 13, 3) := by decide +kernel
theorem dX11_goesOn_45 : decode cX11_goesOn 45 = .ok (.aload_n 0, 1) := by decide +kernel
theorem dX11_goesOn_46 : decode cX11_goesOn 46 = .ok (.iload_n 1, 1) := by decide +kernel
theorem dX11_goesOn_47 : decode cX11_goesOn 47 = .ok (.iload_n 2, 1) := by decide +kernel
theorem dX11_goesOn_48 : decode cX11_goesOn 48 = .ok (.iconst 3, 1) := by decide +kernel
theorem dX11_goesOn_49 : decode cX11_goesOn 49 = .ok (.invokevirtual 184, 3) := by decide +kernel
theorem dX11_goesOn_52 : decode cX11_goesOn 52 = .ok (.goto 139, 3) := by decide +kernel
theorem dX11_goesOn_55 : decode cX11_goesOn 55 = .ok (.aload_n 0, 1) := by decide +kernel
theorem dX11_goesOn_56 : decode cX11_goesOn 56 = .ok (.getfield 43, 3) := by decide +kernel
theorem dX11_goesOn_59 : decode cX11_goesOn 59 = .ok (.bipush 8, 2) := by decide +kernel
theorem dX11_goesOn_61 : decode cX11_goesOn 61 = .ok (.iload_n 3, 1) := by decide +kernel
theorem dX11_goesOn_62 : decode cX11_goesOn 62 = .ok (.imul, 1) := by decide +kernel
theorem dX11_goesOn_63 : decode cX11_goesOn 63 = .ok (.iload 4, 2) := by decide +kernel
theorem dX11_goesOn_65 : decode cX11_goesOn 65 = .ok (.iadd, 1) := by decide +kernel
theorem dX11_goesOn_66 : decode cX11_goesOn 66 = .ok (.iaload, 1) := by decide +kernel
theorem dX11_goesOn_67 : decode cX11_goesOn 67 = .ok (.sipush 9999, 3) := by decide +kernel
theorem dX11_goesOn_70 : decode cX11_goesOn 70 = .ok (.if_icmp .lt 13, 3) := by decide +kernel
theorem dX11_goesOn_73 : decode cX11_goesOn 73 = .ok (.aload_n 0, 1) := by decide +kernel
theorem dX11_goesOn_74 : decode cX11_goesOn 74 = .ok (.iload_n 1, 1) := by decide +kernel
theorem dX11_goesOn_75 : decode cX11_goesOn 75 = .ok (.iload_n 2, 1) := by decide +kernel
theorem dX11_goesOn_76 : decode cX11_goesOn 76 = .ok (.iconst 5, 1) := by decide +kernel
theorem dX11_goesOn_77 : decode cX11_goesOn 77 = .ok (.invokevirtual 184, 3) := by decide +kernel
theorem dX11_goesOn_80 : decode cX11_goesOn 80 = .ok (.goto 111, 3) := by decide +kernel
theorem dX11_goesOn_83 : decode cX11_goesOn 83 = .ok (.aload_n 0, 1) := by decide +kernel
theorem dX11_goesOn_84 : decode cX11_goesOn 84 = .ok (.iload_n 3, 1) := by decide +kernel
theorem dX11_goesOn_85 : decode cX11_goesOn 85 = .ok (.iload 4, 2) := by decide +kernel
theorem dX11_goesOn_87 : decode cX11_goesOn 87 = .ok (.invokevirtual 192, 3) := by decide +kernel
theorem dX11_goesOn_90 : decode cX11_goesOn 90 = .ok (.istore 5, 2) := by decide +kernel
theorem dX11_goesOn_92 : decode cX11_goesOn 92 = .ok (.aload_n 0, 1) := by decide +kernel
theorem dX11_goesOn_93 : decode cX11_goesOn 93 = .ok (.getfield 40, 3) := by decide +kernel
theorem dX11_goesOn_96 : decode cX11_goesOn 96 = .ok (.bipush 8, 2) := by decide +kernel
theorem dX11_goesOn_98 : decode cX11_goesOn 98 = .ok (.iload_n 3, 1) := by decide +kernel
theorem dX11_goesOn_99 : decode cX11_goesOn 99 = .ok (.imul, 1) := by decide +kernel
theorem dX11_goesOn_100 : decode cX11_goesOn 100 = .ok (.iload 5, 2) := by decide +kernel
theorem dX11_goesOn_102 : decode cX11_goesOn 102 = .ok (.iadd, 1) := by decide +kernel
theorem dX11_goesOn_103 : decode cX11_goesOn 103 = .ok (.iaload, 1) := by decide +kernel
theorem dX11_goesOn_104 : decode cX11_goesOn 104 = .ok (.aload_n 0, 1) := by decide +kernel
theorem dX11_goesOn_105 : decode cX11_goesOn 105 = .ok (.getfield 31, 3) := by decide +kernel
theorem dX11_goesOn_108 : decode cX11_goesOn 108 = .ok (.iconst 5, 1) := by decide +kernel
theorem dX11_goesOn_109 : decode cX11_goesOn 109 = .ok (.iload_n 1, 1) := by decide +kernel
theorem dX11_goesOn_110 : decode cX11_goesOn 110 = .ok (.imul, 1) := by decide +kernel
theorem dX11_goesOn_111 : decode cX11_goesOn 111 = .ok (.iconst 4, 1) := by decide +kernel
theorem dX11_goesOn_112 : decode cX11_goesOn 112 = .ok (.iadd, 1) := by decide +kernel
theorem dX11_goesOn_113 : decode cX11_goesOn 113 = .ok (.iaload, 1) := by decide +kernel
theorem dX11_goesOn_114 : decode cX11_goesOn 114 = .ok (.iadd, 1) := by decide +kernel
theorem dX11_goesOn_115 : decode cX11_goesOn 115 = .ok (.istore 6, 2) := by decide +kernel
theorem dX11_goesOn_117 : decode cX11_goesOn 117 = .ok (.aload_n 0, 1) := by decide +kernel
theorem dX11_goesOn_118 : decode cX11_goesOn 118 = .ok (.getfield 52, 3) := by decide +kernel
theorem dX11_goesOn_121 : decode cX11_goesOn 121 = .ok (.iload_n 1, 1) := by decide +kernel
theorem dX11_goesOn_122 : decode cX11_goesOn 122 = .ok (.iaload, 1) := by decide +kernel
theorem dX11_goesOn_123 : decode cX11_goesOn 123 = .ok (.iload 6, 2) := by decide +kernel
theorem dX11_goesOn_125 : decode cX11_goesOn 125 = .ok (.if_icmp .ge 13, 3) := by decide +kernel
theorem dX11_goesOn_128 : decode cX11_goesOn 128 = .ok (.aload_n 0, 1) := by decide +kernel
theorem dX11_goesOn_129 : decode cX11_goesOn 129 = .ok (.iload_n 1, 1) := by decide +kernel
theorem dX11_goesOn_130 : decode cX11_goesOn 130 = .ok (.iload_n 2, 1) := by decide +kernel
theorem dX11_goesOn_131 : decode cX11_goesOn 131 = .ok (.iconst 4, 1) := by decide +kernel
theorem dX11_goesOn_132 : decode cX11_goesOn 132 = .ok (.invokevirtual 184, 3) := by decide +kernel
theorem dX11_goesOn_135 : decode cX11_goesOn 135 = .ok (.goto 56, 3) := by decide +kernel
theorem dX11_goesOn_138 : decode cX11_goesOn 138 = .ok (.aload_n 0, 1) := by decide +kernel
theorem dX11_goesOn_139 : decode cX11_goesOn 139 = .ok (.getfield 52, 3) := by decide +kernel
theorem dX11_goesOn_142 : decode cX11_goesOn 142 = .ok (.iload_n 1, 1) := by decide +kernel
theorem dX11_goesOn_143 : decode cX11_goesOn 143 = .ok (.dup2, 1) := by decide +kernel
theorem dX11_goesOn_144 : decode cX11_goesOn 144 = .ok (.iaload, 1) := by decide +kernel
theorem dX11_goesOn_145 : decode cX11_goesOn 145 = .ok (.iload 6, 2) := by decide +kernel
theorem dX11_goesOn_147 : decode cX11_goesOn 147 = .ok (.isub, 1) := by decide +kernel
theorem dX11_goesOn_148 : decode cX11_goesOn 148 = .ok (.iastore, 1) := by decide +kernel
theorem dX11_goesOn_149 : decode cX11_goesOn 149 = .ok (.aload_n 0, 1) := by decide +kernel
theorem dX11_goesOn_150 : decode cX11_goesOn 150 = .ok (.getfield 46, 3) := by decide +kernel
theorem dX11_goesOn_153 : decode cX11_goesOn 153 = .ok (.iload_n 1, 1) := by decide +kernel
theorem dX11_goesOn_154 : decode cX11_goesOn 154 = .ok (.iconst 1, 1) := by decide +kernel
theorem dX11_goesOn_155 : decode cX11_goesOn 155 = .ok (.iastore, 1) := by decide +kernel
theorem dX11_goesOn_156 : decode cX11_goesOn 156 = .ok (.aload_n 0, 1) := by decide +kernel
theorem dX11_goesOn_157 : decode cX11_goesOn 157 = .ok (.getfield 49, 3) := by decide +kernel
theorem dX11_goesOn_160 : decode cX11_goesOn 160 = .ok (.iload_n 1, 1) := by decide +kernel
theorem dX11_goesOn_161 : decode cX11_goesOn 161 = .ok (.iconst (-1), 1) := by decide +kernel
theorem dX11_goesOn_162 : decode cX11_goesOn 162 = .ok (.iastore, 1) := by decide +kernel
theorem dX11_goesOn_163 : decode cX11_goesOn 163 = .ok (.aload_n 0, 1) := by decide +kernel
theorem dX11_goesOn_164 : decode cX11_goesOn 164 = .ok (.getfield 55, 3) := by decide +kernel
theorem dX11_goesOn_167 : decode cX11_goesOn 167 = .ok (.iload_n 1, 1) := by decide +kernel
theorem dX11_goesOn_168 : decode cX11_goesOn 168 = .ok (.iload 5, 2) := by decide +kernel
theorem dX11_goesOn_170 : decode cX11_goesOn 170 = .ok (.iastore, 1) := by decide +kernel
theorem dX11_goesOn_171 : decode cX11_goesOn 171 = .ok (.aload_n 0, 1) := by decide +kernel
theorem dX11_goesOn_172 : decode cX11_goesOn 172 = .ok (.getfield 58, 3) := by decide +kernel
theorem dX11_goesOn_175 : decode cX11_goesOn 175 = .ok (.iload_n 1, 1) := by decide +kernel
theorem dX11_goesOn_176 : decode cX11_goesOn 176 = .ok (.iload_n 2, 1) := by decide +kernel
theorem dX11_goesOn_177 : decode cX11_goesOn 177 = .ok (.aload_n 0, 1) := by decide +kernel
theorem dX11_goesOn_178 : decode cX11_goesOn 178 = .ok (.getfield 40, 3) := by decide +kernel
theorem dX11_goesOn_181 : decode cX11_goesOn 181 = .ok (.bipush 8, 2) := by decide +kernel
theorem dX11_goesOn_183 : decode cX11_goesOn 183 = .ok (.iload_n 3, 1) := by decide +kernel
theorem dX11_goesOn_184 : decode cX11_goesOn 184 = .ok (.imul, 1) := by decide +kernel
theorem dX11_goesOn_185 : decode cX11_goesOn 185 = .ok (.iload 5, 2) := by decide +kernel
theorem dX11_goesOn_187 : decode cX11_goesOn 187 = .ok (.iadd, 1) := by decide +kernel
theorem dX11_goesOn_188 : decode cX11_goesOn 188 = .ok (.iaload, 1) := by decide +kernel
theorem dX11_goesOn_189 : decode cX11_goesOn 189 = .ok (.iadd, 1) := by decide +kernel
theorem dX11_goesOn_190 : decode cX11_goesOn 190 = .ok (.iastore, 1) := by decide +kernel
theorem dX11_goesOn_191 : decode cX11_goesOn 191 = .ok (.return_, 1) := by decide +kernel
theorem dX11_gathers_0 : decode cX11_gathers 0 = .ok (.iconst 0, 1) := by decide +kernel
theorem dX11_gathers_1 : decode cX11_gathers 1 = .ok (.istore_n 2, 1) := by decide +kernel
theorem dX11_gathers_2 : decode cX11_gathers 2 = .ok (.iload_n 2, 1) := by decide +kernel
theorem dX11_gathers_3 : decode cX11_gathers 3 = .ok (.bipush 8, 2) := by decide +kernel
theorem dX11_gathers_5 : decode cX11_gathers 5 = .ok (.if_icmp .ge 16, 3) := by decide +kernel
theorem dX11_gathers_8 : decode cX11_gathers 8 = .ok (.aload_n 0, 1) := by decide +kernel
theorem dX11_gathers_9 : decode cX11_gathers 9 = .ok (.getfield 67, 3) := by decide +kernel
theorem dX11_gathers_12 : decode cX11_gathers 12 = .ok (.iload_n 2, 1) := by decide +kernel
theorem dX11_gathers_13 : decode cX11_gathers 13 = .ok (.iconst 0, 1) := by decide +kernel
theorem dX11_gathers_14 : decode cX11_gathers 14 = .ok (.iastore, 1) := by decide +kernel
theorem dX11_gathers_15 : decode cX11_gathers 15 = .ok (.iinc 2 1, 3) := by decide +kernel
theorem dX11_gathers_18 : decode cX11_gathers 18 = .ok (.goto (-16), 3) := by decide +kernel
theorem dX11_gathers_21 : decode cX11_gathers 21 = .ok (.iconst 0, 1) := by decide +kernel
theorem dX11_gathers_22 : decode cX11_gathers 22 = .ok (.istore_n 2, 1) := by decide +kernel
theorem dX11_gathers_23 : decode cX11_gathers 23 = .ok (.iload_n 2, 1) := by decide +kernel
theorem dX11_gathers_24 : decode cX11_gathers 24 = .ok (.aload_n 0, 1) := by decide +kernel
theorem dX11_gathers_25 : decode cX11_gathers 25 = .ok (.getfield 133, 3) := by decide +kernel
theorem dX11_gathers_28 : decode cX11_gathers 28 = .ok (.if_icmp .ge 71, 3) := by decide +kernel
theorem dX11_gathers_31 : decode cX11_gathers 31 = .ok (.aload_n 0, 1) := by decide +kernel
theorem dX11_gathers_32 : decode cX11_gathers 32 = .ok (.getfield 58, 3) := by decide +kernel
theorem dX11_gathers_35 : decode cX11_gathers 35 = .ok (.iload_n 2, 1) := by decide +kernel
theorem dX11_gathers_36 : decode cX11_gathers 36 = .ok (.iaload, 1) := by decide +kernel
theorem dX11_gathers_37 : decode cX11_gathers 37 = .ok (.iload_n 1, 1) := by decide +kernel
theorem dX11_gathers_38 : decode cX11_gathers 38 = .ok (.if_icmp .ne 30, 3) := by decide +kernel
theorem dX11_gathers_41 : decode cX11_gathers 41 = .ok (.aload_n 0, 1) := by decide +kernel
theorem dX11_gathers_42 : decode cX11_gathers 42 = .ok (.getfield 49, 3) := by decide +kernel
theorem dX11_gathers_45 : decode cX11_gathers 45 = .ok (.iload_n 2, 1) := by decide +kernel
theorem dX11_gathers_46 : decode cX11_gathers 46 = .ok (.aload_n 0, 1) := by decide +kernel
theorem dX11_gathers_47 : decode cX11_gathers 47 = .ok (.getfield 55, 3) := by decide +kernel
theorem dX11_gathers_50 : decode cX11_gathers 50 = .ok (.iload_n 2, 1) := by decide +kernel
theorem dX11_gathers_51 : decode cX11_gathers 51 = .ok (.iaload, 1) := by decide +kernel
theorem dX11_gathers_52 : decode cX11_gathers 52 = .ok (.iastore, 1) := by decide +kernel
theorem dX11_gathers_53 : decode cX11_gathers 53 = .ok (.aload_n 0, 1) := by decide +kernel
theorem dX11_gathers_54 : decode cX11_gathers 54 = .ok (.getfield 70, 3) := by decide +kernel
theorem dX11_gathers_57 : decode cX11_gathers 57 = .ok (.aload_n 0, 1) := by decide +kernel
theorem dX11_gathers_58 : decode cX11_gathers 58 = .ok (.getfield 49, 3) := by decide +kernel
theorem dX11_gathers_61 : decode cX11_gathers 61 = .ok (.iload_n 2, 1) := by decide +kernel
theorem dX11_gathers_62 : decode cX11_gathers 62 = .ok (.iaload, 1) := by decide +kernel
theorem dX11_gathers_63 : decode cX11_gathers 63 = .ok (.dup2, 1) := by decide +kernel
theorem dX11_gathers_64 : decode cX11_gathers 64 = .ok (.iaload, 1) := by decide +kernel
theorem dX11_gathers_65 : decode cX11_gathers 65 = .ok (.iconst 1, 1) := by decide +kernel
theorem dX11_gathers_66 : decode cX11_gathers 66 = .ok (.iadd, 1) := by decide +kernel
theorem dX11_gathers_67 : decode cX11_gathers 67 = .ok (.iastore, 1) := by decide +kernel
theorem dX11_gathers_68 : decode cX11_gathers 68 = .ok (.aload_n 0, 1) := by decide +kernel
theorem dX11_gathers_69 : decode cX11_gathers 69 = .ok (.getfield 49, 3) := by decide +kernel
theorem dX11_gathers_72 : decode cX11_gathers 72 = .ok (.iload_n 2, 1) := by decide +kernel
theorem dX11_gathers_73 : decode cX11_gathers 73 = .ok (.iaload, 1) := by decide +kernel
theorem dX11_gathers_74 : decode cX11_gathers 74 = .ok (.iconst (-1), 1) := by decide +kernel
theorem dX11_gathers_75 : decode cX11_gathers 75 = .ok (.if_icmp .eq 18, 3) := by decide +kernel
theorem dX11_gathers_78 : decode cX11_gathers 78 = .ok (.aload_n 0, 1) := by decide +kernel
theorem dX11_gathers_79 : decode cX11_gathers 79 = .ok (.getfield 67, 3) := by decide +kernel
theorem dX11_gathers_82 : decode cX11_gathers 82 = .ok (.aload_n 0, 1) := by decide +kernel
theorem dX11_gathers_83 : decode cX11_gathers 83 = .ok (.getfield 49, 3) := by decide +kernel
theorem dX11_gathers_86 : decode cX11_gathers 86 = .ok (.iload_n 2, 1) := by decide +kernel
theorem dX11_gathers_87 : decode cX11_gathers 87 = .ok (.iaload, 1) := by decide +kernel
theorem dX11_gathers_88 : decode cX11_gathers 88 = .ok (.dup2, 1) := by decide +kernel
theorem dX11_gathers_89 : decode cX11_gathers 89 = .ok (.iaload, 1) := by decide +kernel
theorem dX11_gathers_90 : decode cX11_gathers 90 = .ok (.iconst 1, 1) := by decide +kernel
theorem dX11_gathers_91 : decode cX11_gathers 91 = .ok (.iadd, 1) := by decide +kernel
theorem dX11_gathers_92 : decode cX11_gathers 92 = .ok (.iastore, 1) := by decide +kernel
theorem dX11_gathers_93 : decode cX11_gathers 93 = .ok (.iinc 2 1, 3) := by decide +kernel
theorem dX11_gathers_96 : decode cX11_gathers 96 = .ok (.goto (-73), 3) := by decide +kernel
theorem dX11_gathers_99 : decode cX11_gathers 99 = .ok (.bipush 7, 2) := by decide +kernel
theorem dX11_gathers_101 : decode cX11_gathers 101 = .ok (.istore_n 2, 1) := by decide +kernel
theorem dX11_gathers_102 : decode cX11_gathers 102 = .ok (.iload_n 2, 1) := by decide +kernel
theorem dX11_gathers_103 : decode cX11_gathers 103 = .ok (.ifCond .lt 73, 3) := by decide +kernel
theorem dX11_gathers_106 : decode cX11_gathers 106 = .ok (.aload_n 0, 1) := by decide +kernel
theorem dX11_gathers_107 : decode cX11_gathers 107 = .ok (.getfield 67, 3) := by decide +kernel
theorem dX11_gathers_110 : decode cX11_gathers 110 = .ok (.iload_n 2, 1) := by decide +kernel
theorem dX11_gathers_111 : decode cX11_gathers 111 = .ok (.iaload, 1) := by decide +kernel
theorem dX11_gathers_112 : decode cX11_gathers 112 = .ok (.iconst 1, 1) := by decide +kernel
theorem dX11_gathers_113 : decode cX11_gathers 113 = .ok (.if_icmp .le 23, 3) := by decide +kernel
theorem dX11_gathers_116 : decode cX11_gathers 116 = .ok (.aload_n 0, 1) := by decide +kernel
theorem dX11_gathers_117 : decode cX11_gathers 117 = .ok (.getfield 195, 3) := by decide +kernel
theorem dX11_gathers_120 : decode cX11_gathers 120 = .ok (.iconst (-1), 1) := by decide +kernel
theorem dX11_gathers_121 : decode cX11_gathers 121 = .ok (.if_icmp .eq 11, 3) := by decide +kernel
theorem dX11_gathers_124 : decode cX11_gathers 124 = .ok (.aload_n 0, 1) := by decide +kernel
theorem dX11_gathers_125 : decode cX11_gathers 125 = .ok (.getfield 195, 3) := by decide +kernel
theorem dX11_gathers_128 : decode cX11_gathers 128 = .ok (.iload_n 1, 1) := by decide +kernel
theorem dX11_gathers_129 : decode cX11_gathers 129 = .ok (.if_icmp .ne 7, 3) := by decide +kernel
theorem dX11_gathers_132 : decode cX11_gathers 132 = .ok (.iconst 1, 1) := by decide +kernel
theorem dX11_gathers_133 : decode cX11_gathers 133 = .ok (.goto 4, 3) := by decide +kernel
theorem dX11_gathers_136 : decode cX11_gathers 136 = .ok (.iconst 0, 1) := by decide +kernel
theorem dX11_gathers_137 : decode cX11_gathers 137 = .ok (.istore_n 3, 1) := by decide +kernel
theorem dX11_gathers_138 : decode cX11_gathers 138 = .ok (.aload_n 0, 1) := by decide +kernel
theorem dX11_gathers_139 : decode cX11_gathers 139 = .ok (.iload_n 3, 1) := by decide +kernel
theorem dX11_gathers_140 : decode cX11_gathers 140 = .ok (.ifCond .eq 7, 3) := by decide +kernel
theorem dX11_gathers_143 : decode cX11_gathers 143 = .ok (.iload_n 1, 1) := by decide +kernel
theorem dX11_gathers_144 : decode cX11_gathers 144 = .ok (.goto 7, 3) := by decide +kernel
theorem dX11_gathers_147 : decode cX11_gathers 147 = .ok (.aload_n 0, 1) := by decide +kernel
theorem dX11_gathers_148 : decode cX11_gathers 148 = .ok (.getfield 195, 3) := by decide +kernel
theorem dX11_gathers_151 : decode cX11_gathers 151 = .ok (.putfield 195, 3) := by decide +kernel
theorem dX11_gathers_154 : decode cX11_gathers 154 = .ok (.aload_n 0, 1) := by decide +kernel
theorem dX11_gathers_155 : decode cX11_gathers 155 = .ok (.iload_n 3, 1) := by decide +kernel
theorem dX11_gathers_156 : decode cX11_gathers 156 = .ok (.ifCond .eq 7, 3) := by decide +kernel
theorem dX11_gathers_159 : decode cX11_gathers 159 = .ok (.iload_n 2, 1) := by decide +kernel
theorem dX11_gathers_160 : decode cX11_gathers 160 = .ok (.goto 7, 3) := by decide +kernel
theorem dX11_gathers_163 : decode cX11_gathers 163 = .ok (.aload_n 0, 1) := by decide +kernel
theorem dX11_gathers_164 : decode cX11_gathers 164 = .ok (.getfield 198, 3) := by decide +kernel
theorem dX11_gathers_167 : decode cX11_gathers 167 = .ok (.putfield 198, 3) := by decide +kernel
theorem dX11_gathers_170 : decode cX11_gathers 170 = .ok (.iinc 2 (-1), 3) := by decide +kernel
theorem dX11_gathers_173 : decode cX11_gathers 173 = .ok (.goto (-71), 3) := by decide +kernel
theorem dX11_gathers_176 : decode cX11_gathers 176 = .ok (.return_, 1) := by decide +kernel
theorem dX11_keeps_0 : decode cX11_keeps 0 = .ok (.iconst 0, 1) := by decide +kernel
theorem dX11_keeps_1 : decode cX11_keeps 1 = .ok (.istore_n 2, 1) := by decide +kernel
theorem dX11_keeps_2 : decode cX11_keeps 2 = .ok (.iload_n 2, 1) := by decide +kernel
theorem dX11_keeps_3 : decode cX11_keeps 3 = .ok (.aload_n 0, 1) := by decide +kernel
theorem dX11_keeps_4 : decode cX11_keeps 4 = .ok (.getfield 133, 3) := by decide +kernel
theorem dX11_keeps_7 : decode cX11_keeps 7 = .ok (.if_icmp .ge 105, 3) := by decide +kernel
theorem dX11_keeps_10 : decode cX11_keeps 10 = .ok (.aload_n 0, 1) := by decide +kernel
theorem dX11_keeps_11 : decode cX11_keeps 11 = .ok (.getfield 64, 3) := by decide +kernel
theorem dX11_keeps_14 : decode cX11_keeps 14 = .ok (.bipush 32, 2) := by decide +kernel
theorem dX11_keeps_16 : decode cX11_keeps 16 = .ok (.iload_n 1, 1) := by decide +kernel
theorem dX11_keeps_17 : decode cX11_keeps 17 = .ok (.imul, 1) := by decide +kernel
theorem dX11_keeps_18 : decode cX11_keeps 18 = .ok (.iconst 4, 1) := by decide +kernel
theorem dX11_keeps_19 : decode cX11_keeps 19 = .ok (.iload_n 2, 1) := by decide +kernel
theorem dX11_keeps_20 : decode cX11_keeps 20 = .ok (.imul, 1) := by decide +kernel
theorem dX11_keeps_21 : decode cX11_keeps 21 = .ok (.iadd, 1) := by decide +kernel
theorem dX11_keeps_22 : decode cX11_keeps 22 = .ok (.aload_n 0, 1) := by decide +kernel
theorem dX11_keeps_23 : decode cX11_keeps 23 = .ok (.getfield 46, 3) := by decide +kernel
theorem dX11_keeps_26 : decode cX11_keeps 26 = .ok (.iload_n 2, 1) := by decide +kernel
theorem dX11_keeps_27 : decode cX11_keeps 27 = .ok (.iaload, 1) := by decide +kernel
theorem dX11_keeps_28 : decode cX11_keeps 28 = .ok (.iastore, 1) := by decide +kernel
theorem dX11_keeps_29 : decode cX11_keeps 29 = .ok (.aload_n 0, 1) := by decide +kernel
theorem dX11_keeps_30 : decode cX11_keeps 30 = .ok (.getfield 64, 3) := by decide +kernel
theorem dX11_keeps_33 : decode cX11_keeps 33 = .ok (.bipush 32, 2) := by decide +kernel
theorem dX11_keeps_35 : decode cX11_keeps 35 = .ok (.iload_n 1, 1) := by decide +kernel
theorem dX11_keeps_36 : decode cX11_keeps 36 = .ok (.imul, 1) := by decide +kernel
theorem dX11_keeps_37 : decode cX11_keeps 37 = .ok (.iconst 4, 1) := by decide +kernel
theorem dX11_keeps_38 : decode cX11_keeps 38 = .ok (.iload_n 2, 1) := by decide +kernel
theorem dX11_keeps_39 : decode cX11_keeps 39 = .ok (.imul, 1) := by decide +kernel
theorem dX11_keeps_40 : decode cX11_keeps 40 = .ok (.iadd, 1) := by decide +kernel
theorem dX11_keeps_41 : decode cX11_keeps 41 = .ok (.iconst 1, 1) := by decide +kernel
theorem dX11_keeps_42 : decode cX11_keeps 42 = .ok (.iadd, 1) := by decide +kernel
theorem dX11_keeps_43 : decode cX11_keeps 43 = .ok (.aload_n 0, 1) := by decide +kernel
theorem dX11_keeps_44 : decode cX11_keeps 44 = .ok (.getfield 49, 3) := by decide +kernel
theorem dX11_keeps_47 : decode cX11_keeps 47 = .ok (.iload_n 2, 1) := by decide +kernel
theorem dX11_keeps_48 : decode cX11_keeps 48 = .ok (.iaload, 1) := by decide +kernel
theorem dX11_keeps_49 : decode cX11_keeps 49 = .ok (.iastore, 1) := by decide +kernel
theorem dX11_keeps_50 : decode cX11_keeps 50 = .ok (.aload_n 0, 1) := by decide +kernel
theorem dX11_keeps_51 : decode cX11_keeps 51 = .ok (.getfield 64, 3) := by decide +kernel
theorem dX11_keeps_54 : decode cX11_keeps 54 = .ok (.bipush 32, 2) := by decide +kernel
theorem dX11_keeps_56 : decode cX11_keeps 56 = .ok (.iload_n 1, 1) := by decide +kernel
theorem dX11_keeps_57 : decode cX11_keeps 57 = .ok (.imul, 1) := by decide +kernel
theorem dX11_keeps_58 : decode cX11_keeps 58 = .ok (.iconst 4, 1) := by decide +kernel
theorem dX11_keeps_59 : decode cX11_keeps 59 = .ok (.iload_n 2, 1) := by decide +kernel
theorem dX11_keeps_60 : decode cX11_keeps 60 = .ok (.imul, 1) := by decide +kernel
theorem dX11_keeps_61 : decode cX11_keeps 61 = .ok (.iadd, 1) := by decide +kernel
theorem dX11_keeps_62 : decode cX11_keeps 62 = .ok (.iconst 2, 1) := by decide +kernel
theorem dX11_keeps_63 : decode cX11_keeps 63 = .ok (.iadd, 1) := by decide +kernel
theorem dX11_keeps_64 : decode cX11_keeps 64 = .ok (.aload_n 0, 1) := by decide +kernel
theorem dX11_keeps_65 : decode cX11_keeps 65 = .ok (.getfield 52, 3) := by decide +kernel
theorem dX11_keeps_68 : decode cX11_keeps 68 = .ok (.iload_n 2, 1) := by decide +kernel
theorem dX11_keeps_69 : decode cX11_keeps 69 = .ok (.iaload, 1) := by decide +kernel
theorem dX11_keeps_70 : decode cX11_keeps 70 = .ok (.iastore, 1) := by decide +kernel
theorem dX11_keeps_71 : decode cX11_keeps 71 = .ok (.aload_n 0, 1) := by decide +kernel
theorem dX11_keeps_72 : decode cX11_keeps 72 = .ok (.getfield 64, 3) := by decide +kernel
theorem dX11_keeps_75 : decode cX11_keeps 75 = .ok (.bipush 32, 2) := by decide +kernel
theorem dX11_keeps_77 : decode cX11_keeps 77 = .ok (.iload_n 1, 1) := by decide +kernel
theorem dX11_keeps_78 : decode cX11_keeps 78 = .ok (.imul, 1) := by decide +kernel
theorem dX11_keeps_79 : decode cX11_keeps 79 = .ok (.iconst 4, 1) := by decide +kernel
theorem dX11_keeps_80 : decode cX11_keeps 80 = .ok (.iload_n 2, 1) := by decide +kernel
theorem dX11_keeps_81 : decode cX11_keeps 81 = .ok (.imul, 1) := by decide +kernel
theorem dX11_keeps_82 : decode cX11_keeps 82 = .ok (.iadd, 1) := by decide +kernel
theorem dX11_keeps_83 : decode cX11_keeps 83 = .ok (.iconst 3, 1) := by decide +kernel
theorem dX11_keeps_84 : decode cX11_keeps 84 = .ok (.iadd, 1) := by decide +kernel
theorem dX11_keeps_85 : decode cX11_keeps 85 = .ok (.aload_n 0, 1) := by decide +kernel
theorem dX11_keeps_86 : decode cX11_keeps 86 = .ok (.getfield 46, 3) := by decide +kernel
theorem dX11_keeps_89 : decode cX11_keeps 89 = .ok (.iload_n 2, 1) := by decide +kernel
theorem dX11_keeps_90 : decode cX11_keeps 90 = .ok (.iaload, 1) := by decide +kernel
theorem dX11_keeps_91 : decode cX11_keeps 91 = .ok (.iconst 1, 1) := by decide +kernel
theorem dX11_keeps_92 : decode cX11_keeps 92 = .ok (.if_icmp .ne 12, 3) := by decide +kernel
theorem dX11_keeps_95 : decode cX11_keeps 95 = .ok (.aload_n 0, 1) := by decide +kernel
theorem dX11_keeps_96 : decode cX11_keeps 96 = .ok (.getfield 55, 3) := by decide +kernel
theorem dX11_keeps_99 : decode cX11_keeps 99 = .ok (.iload_n 2, 1) := by decide +kernel
theorem dX11_keeps_100 : decode cX11_keeps 100 = .ok (.iaload, 1) := by decide +kernel
theorem dX11_keeps_101 : decode cX11_keeps 101 = .ok (.goto 4, 3) := by decide +kernel
theorem dX11_keeps_104 : decode cX11_keeps 104 = .ok (.iconst (-1), 1) := by decide +kernel
theorem dX11_keeps_105 : decode cX11_keeps 105 = .ok (.iastore, 1) := by decide +kernel
theorem dX11_keeps_106 : decode cX11_keeps 106 = .ok (.iinc 2 1, 3) := by decide +kernel
theorem dX11_keeps_109 : decode cX11_keeps 109 = .ok (.goto (-107), 3) := by decide +kernel
theorem dX11_keeps_112 : decode cX11_keeps 112 = .ok (.return_, 1) := by decide +kernel
theorem dX11_lives_0 : decode cX11_lives 0 = .ok (.iconst 0, 1) := by decide +kernel
theorem dX11_lives_1 : decode cX11_lives 1 = .ok (.istore_n 1, 1) := by decide +kernel
theorem dX11_lives_2 : decode cX11_lives 2 = .ok (.iload_n 1, 1) := by decide +kernel
theorem dX11_lives_3 : decode cX11_lives 3 = .ok (.bipush 8, 2) := by decide +kernel
theorem dX11_lives_5 : decode cX11_lives 5 = .ok (.if_icmp .ge 37, 3) := by decide +kernel
theorem dX11_lives_8 : decode cX11_lives 8 = .ok (.aload_n 0, 1) := by decide +kernel
theorem dX11_lives_9 : decode cX11_lives 9 = .ok (.getfield 46, 3) := by decide +kernel
theorem dX11_lives_12 : decode cX11_lives 12 = .ok (.iload_n 1, 1) := by decide +kernel
theorem dX11_lives_13 : decode cX11_lives 13 = .ok (.iconst 0, 1) := by decide +kernel
theorem dX11_lives_14 : decode cX11_lives 14 = .ok (.iastore, 1) := by decide +kernel
theorem dX11_lives_15 : decode cX11_lives 15 = .ok (.aload_n 0, 1) := by decide +kernel
theorem dX11_lives_16 : decode cX11_lives 16 = .ok (.getfield 49, 3) := by decide +kernel
theorem dX11_lives_19 : decode cX11_lives 19 = .ok (.iload_n 1, 1) := by decide +kernel
theorem dX11_lives_20 : decode cX11_lives 20 = .ok (.iconst (-1), 1) := by decide +kernel
theorem dX11_lives_21 : decode cX11_lives 21 = .ok (.iastore, 1) := by decide +kernel
theorem dX11_lives_22 : decode cX11_lives 22 = .ok (.aload_n 0, 1) := by decide +kernel
theorem dX11_lives_23 : decode cX11_lives 23 = .ok (.getfield 61, 3) := by decide +kernel
theorem dX11_lives_26 : decode cX11_lives 26 = .ok (.iload_n 1, 1) := by decide +kernel
theorem dX11_lives_27 : decode cX11_lives 27 = .ok (.iconst (-1), 1) := by decide +kernel
theorem dX11_lives_28 : decode cX11_lives 28 = .ok (.iastore, 1) := by decide +kernel
theorem dX11_lives_29 : decode cX11_lives 29 = .ok (.aload_n 0, 1) := by decide +kernel
theorem dX11_lives_30 : decode cX11_lives 30 = .ok (.getfield 70, 3) := by decide +kernel
theorem dX11_lives_33 : decode cX11_lives 33 = .ok (.iload_n 1, 1) := by decide +kernel
theorem dX11_lives_34 : decode cX11_lives 34 = .ok (.iconst 0, 1) := by decide +kernel
theorem dX11_lives_35 : decode cX11_lives 35 = .ok (.iastore, 1) := by decide +kernel
theorem dX11_lives_36 : decode cX11_lives 36 = .ok (.iinc 1 1, 3) := by decide +kernel
theorem dX11_lives_39 : decode cX11_lives 39 = .ok (.goto (-37), 3) := by decide +kernel
theorem dX11_lives_42 : decode cX11_lives 42 = .ok (.iconst 0, 1) := by decide +kernel
theorem dX11_lives_43 : decode cX11_lives 43 = .ok (.istore_n 1, 1) := by decide +kernel
theorem dX11_lives_44 : decode cX11_lives 44 = .ok (.iload_n 1, 1) := by decide +kernel
theorem dX11_lives_45 : decode cX11_lives 45 = .ok (.aload_n 0, 1) := by decide +kernel
theorem dX11_lives_46 : decode cX11_lives 46 = .ok (.getfield 133, 3) := by decide +kernel
theorem dX11_lives_49 : decode cX11_lives 49 = .ok (.if_icmp .ge 51, 3) := by decide +kernel
theorem dX11_lives_52 : decode cX11_lives 52 = .ok (.aload_n 0, 1) := by decide +kernel
theorem dX11_lives_53 : decode cX11_lives 53 = .ok (.getfield 52, 3) := by decide +kernel
theorem dX11_lives_56 : decode cX11_lives 56 = .ok (.iload_n 1, 1) := by decide +kernel
theorem dX11_lives_57 : decode cX11_lives 57 = .ok (.aload_n 0, 1) := by decide +kernel
theorem dX11_lives_58 : decode cX11_lives 58 = .ok (.getfield 31, 3) := by decide +kernel
theorem dX11_lives_61 : decode cX11_lives 61 = .ok (.iconst 5, 1) := by decide +kernel
theorem dX11_lives_62 : decode cX11_lives 62 = .ok (.iload_n 1, 1) := by decide +kernel
theorem dX11_lives_63 : decode cX11_lives 63 = .ok (.imul, 1) := by decide +kernel
theorem dX11_lives_64 : decode cX11_lives 64 = .ok (.iconst 3, 1) := by decide +kernel
theorem dX11_lives_65 : decode cX11_lives 65 = .ok (.iadd, 1) := by decide +kernel
theorem dX11_lives_66 : decode cX11_lives 66 = .ok (.iaload, 1) := by decide +kernel
theorem dX11_lives_67 : decode cX11_lives 67 = .ok (.iastore, 1) := by decide +kernel
theorem dX11_lives_68 : decode cX11_lives 68 = .ok (.aload_n 0, 1) := by decide +kernel
theorem dX11_lives_69 : decode cX11_lives 69 = .ok (.getfield 55, 3) := by decide +kernel
theorem dX11_lives_72 : decode cX11_lives 72 = .ok (.iload_n 1, 1) := by decide +kernel
theorem dX11_lives_73 : decode cX11_lives 73 = .ok (.aload_n 0, 1) := by decide +kernel
theorem dX11_lives_74 : decode cX11_lives 74 = .ok (.getfield 31, 3) := by decide +kernel
theorem dX11_lives_77 : decode cX11_lives 77 = .ok (.iconst 5, 1) := by decide +kernel
theorem dX11_lives_78 : decode cX11_lives 78 = .ok (.iload_n 1, 1) := by decide +kernel
theorem dX11_lives_79 : decode cX11_lives 79 = .ok (.imul, 1) := by decide +kernel
theorem dX11_lives_80 : decode cX11_lives 80 = .ok (.iaload, 1) := by decide +kernel
theorem dX11_lives_81 : decode cX11_lives 81 = .ok (.iastore, 1) := by decide +kernel
theorem dX11_lives_82 : decode cX11_lives 82 = .ok (.aload_n 0, 1) := by decide +kernel
theorem dX11_lives_83 : decode cX11_lives 83 = .ok (.getfield 58, 3) := by decide +kernel
theorem dX11_lives_86 : decode cX11_lives 86 = .ok (.iload_n 1, 1) := by decide +kernel
theorem dX11_lives_87 : decode cX11_lives 87 = .ok (.aload_n 0, 1) := by decide +kernel
theorem dX11_lives_88 : decode cX11_lives 88 = .ok (.getfield 34, 3) := by decide +kernel
theorem dX11_lives_91 : decode cX11_lives 91 = .ok (.iload_n 1, 1) := by decide +kernel
theorem dX11_lives_92 : decode cX11_lives 92 = .ok (.iaload, 1) := by decide +kernel
theorem dX11_lives_93 : decode cX11_lives 93 = .ok (.iastore, 1) := by decide +kernel
theorem dX11_lives_94 : decode cX11_lives 94 = .ok (.iinc 1 1, 3) := by decide +kernel
theorem dX11_lives_97 : decode cX11_lives 97 = .ok (.goto (-53), 3) := by decide +kernel
theorem dX11_lives_100 : decode cX11_lives 100 = .ok (.aload_n 0, 1) := by decide +kernel
theorem dX11_lives_101 : decode cX11_lives 101 = .ok (.iconst (-1), 1) := by decide +kernel
theorem dX11_lives_102 : decode cX11_lives 102 = .ok (.putfield 195, 3) := by decide +kernel
theorem dX11_lives_105 : decode cX11_lives 105 = .ok (.aload_n 0, 1) := by decide +kernel
theorem dX11_lives_106 : decode cX11_lives 106 = .ok (.iconst (-1), 1) := by decide +kernel
theorem dX11_lives_107 : decode cX11_lives 107 = .ok (.putfield 198, 3) := by decide +kernel
theorem dX11_lives_110 : decode cX11_lives 110 = .ok (.iconst 0, 1) := by decide +kernel
theorem dX11_lives_111 : decode cX11_lives 111 = .ok (.istore_n 1, 1) := by decide +kernel
theorem dX11_lives_112 : decode cX11_lives 112 = .ok (.iload_n 1, 1) := by decide +kernel
theorem dX11_lives_113 : decode cX11_lives 113 = .ok (.bipush 40, 2) := by decide +kernel
theorem dX11_lives_115 : decode cX11_lives 115 = .ok (.if_icmp .ge 51, 3) := by decide +kernel
theorem dX11_lives_118 : decode cX11_lives 118 = .ok (.aload_n 0, 1) := by decide +kernel
theorem dX11_lives_119 : decode cX11_lives 119 = .ok (.iload_n 1, 1) := by decide +kernel
theorem dX11_lives_120 : decode cX11_lives 120 = .ok (.invokevirtual 201, 3) := by decide +kernel
theorem dX11_lives_123 : decode cX11_lives 123 = .ok (.iconst 0, 1) := by decide +kernel
theorem dX11_lives_124 : decode cX11_lives 124 = .ok (.istore_n 2, 1) := by decide +kernel
theorem dX11_lives_125 : decode cX11_lives 125 = .ok (.iload_n 2, 1) := by decide +kernel
theorem dX11_lives_126 : decode cX11_lives 126 = .ok (.aload_n 0, 1) := by decide +kernel
theorem dX11_lives_127 : decode cX11_lives 127 = .ok (.getfield 133, 3) := by decide +kernel
theorem dX11_lives_130 : decode cX11_lives 130 = .ok (.if_icmp .ge 25, 3) := by decide +kernel
theorem dX11_lives_133 : decode cX11_lives 133 = .ok (.aload_n 0, 1) := by decide +kernel
theorem dX11_lives_134 : decode cX11_lives 134 = .ok (.getfield 58, 3) := by decide +kernel
theorem dX11_lives_137 : decode cX11_lives 137 = .ok (.iload_n 2, 1) := by decide +kernel
theorem dX11_lives_138 : decode cX11_lives 138 = .ok (.iaload, 1) := by decide +kernel
theorem dX11_lives_139 : decode cX11_lives 139 = .ok (.iload_n 1, 1) := by decide +kernel
theorem dX11_lives_140 : decode cX11_lives 140 = .ok (.if_icmp .ne 9, 3) := by decide +kernel
theorem dX11_lives_143 : decode cX11_lives 143 = .ok (.aload_n 0, 1) := by decide +kernel
theorem dX11_lives_144 : decode cX11_lives 144 = .ok (.iload_n 2, 1) := by decide +kernel
theorem dX11_lives_145 : decode cX11_lives 145 = .ok (.iload_n 1, 1) := by decide +kernel
theorem dX11_lives_146 : decode cX11_lives 146 = .ok (.invokevirtual 205, 3) := by decide +kernel
theorem dX11_lives_149 : decode cX11_lives 149 = .ok (.iinc 2 1, 3) := by decide +kernel
theorem dX11_lives_152 : decode cX11_lives 152 = .ok (.goto (-27), 3) := by decide +kernel
theorem dX11_lives_155 : decode cX11_lives 155 = .ok (.aload_n 0, 1) := by decide +kernel
theorem dX11_lives_156 : decode cX11_lives 156 = .ok (.iload_n 1, 1) := by decide +kernel
theorem dX11_lives_157 : decode cX11_lives 157 = .ok (.invokevirtual 209, 3) := by decide +kernel
theorem dX11_lives_160 : decode cX11_lives 160 = .ok (.iinc 1 1, 3) := by decide +kernel
theorem dX11_lives_163 : decode cX11_lives 163 = .ok (.goto (-51), 3) := by decide +kernel
theorem dX11_lives_166 : decode cX11_lives 166 = .ok (.return_, 1) := by decide +kernel
theorem dX11_find_0 : decode cX11_find 0 = .ok (.aload_n 0, 1) := by decide +kernel
theorem dX11_find_1 : decode cX11_find 1 = .ok (.invokevirtual 139, 3) := by decide +kernel
theorem dX11_find_4 : decode cX11_find 4 = .ok (.pop, 1) := by decide +kernel
theorem dX11_find_5 : decode cX11_find 5 = .ok (.aload_n 0, 1) := by decide +kernel
theorem dX11_find_6 : decode cX11_find 6 = .ok (.invokevirtual 143, 3) := by decide +kernel
theorem dX11_find_9 : decode cX11_find 9 = .ok (.pop, 1) := by decide +kernel
theorem dX11_find_10 : decode cX11_find 10 = .ok (.aload_n 0, 1) := by decide +kernel
theorem dX11_find_11 : decode cX11_find 11 = .ok (.invokevirtual 212, 3) := by decide +kernel
theorem dX11_find_14 : decode cX11_find 14 = .ok (.aload_n 0, 1) := by decide +kernel
theorem dX11_find_15 : decode cX11_find 15 = .ok (.invokevirtual 215, 3) := by decide +kernel
theorem dX11_find_18 : decode cX11_find 18 = .ok (.return_, 1) := by decide +kernel
theorem dX11_at_0 : decode cX11_at 0 = .ok (.aload_n 0, 1) := by decide +kernel
theorem dX11_at_1 : decode cX11_at 1 = .ok (.invokevirtual 218, 3) := by decide +kernel
theorem dX11_at_4 : decode cX11_at 4 = .ok (.iload_n 1, 1) := by decide +kernel
theorem dX11_at_5 : decode cX11_at 5 = .ok (.invokestatic 160, 3) := by decide +kernel
theorem dX11_at_8 : decode cX11_at 8 = .ok (.ifCond .eq 41, 3) := by decide +kernel
theorem dX11_at_11 : decode cX11_at 11 = .ok (.aload_n 0, 1) := by decide +kernel
theorem dX11_at_12 : decode cX11_at 12 = .ok (.iload_n 2, 1) := by decide +kernel
theorem dX11_at_13 : decode cX11_at 13 = .ok (.invokevirtual 153, 3) := by decide +kernel
theorem dX11_at_16 : decode cX11_at 16 = .ok (.ifCond .eq 33, 3) := by decide +kernel
theorem dX11_at_19 : decode cX11_at 19 = .ok (.iload_n 3, 1) := by decide +kernel
theorem dX11_at_20 : decode cX11_at 20 = .ok (.i2l, 1) := by decide +kernel
theorem dX11_at_21 : decode cX11_at 21 = .ok (.lconst 0, 1) := by decide +kernel
theorem dX11_at_22 : decode cX11_at 22 = .ok (.ldc2_w 89, 3) := by decide +kernel
theorem dX11_at_25 : decode cX11_at 25 = .ok (.invokestatic 81, 3) := by decide +kernel
theorem dX11_at_28 : decode cX11_at 28 = .ok (.ifCond .eq 21, 3) := by decide +kernel
theorem dX11_at_31 : decode cX11_at 31 = .ok (.aload_n 0, 1) := by decide +kernel
theorem dX11_at_32 : decode cX11_at 32 = .ok (.getfield 64, 3) := by decide +kernel
theorem dX11_at_35 : decode cX11_at 35 = .ok (.bipush 32, 2) := by decide +kernel
theorem dX11_at_37 : decode cX11_at 37 = .ok (.iload_n 1, 1) := by decide +kernel
theorem dX11_at_38 : decode cX11_at 38 = .ok (.imul, 1) := by decide +kernel
theorem dX11_at_39 : decode cX11_at 39 = .ok (.iconst 4, 1) := by decide +kernel
theorem dX11_at_40 : decode cX11_at 40 = .ok (.iload_n 2, 1) := by decide +kernel
theorem dX11_at_41 : decode cX11_at 41 = .ok (.imul, 1) := by decide +kernel
theorem dX11_at_42 : decode cX11_at 42 = .ok (.iadd, 1) := by decide +kernel
theorem dX11_at_43 : decode cX11_at 43 = .ok (.iload_n 3, 1) := by decide +kernel
theorem dX11_at_44 : decode cX11_at 44 = .ok (.iadd, 1) := by decide +kernel
theorem dX11_at_45 : decode cX11_at 45 = .ok (.iaload, 1) := by decide +kernel
theorem dX11_at_46 : decode cX11_at 46 = .ok (.goto 5, 3) := by decide +kernel
theorem dX11_at_49 : decode cX11_at 49 = .ok (.bipush (-2), 2) := by decide +kernel
theorem dX11_at_51 : decode cX11_at 51 = .ok (.ireturn, 1) := by decide +kernel
theorem dX11_ends_0 : decode cX11_ends 0 = .ok (.aload_n 0, 1) := by decide +kernel
theorem dX11_ends_1 : decode cX11_ends 1 = .ok (.invokevirtual 218, 3) := by decide +kernel
theorem dX11_ends_4 : decode cX11_ends 4 = .ok (.aload_n 0, 1) := by decide +kernel
theorem dX11_ends_5 : decode cX11_ends 5 = .ok (.iload_n 1, 1) := by decide +kernel
theorem dX11_ends_6 : decode cX11_ends 6 = .ok (.invokevirtual 153, 3) := by decide +kernel
theorem dX11_ends_9 : decode cX11_ends 9 = .ok (.ifCond .eq 12, 3) := by decide +kernel
theorem dX11_ends_12 : decode cX11_ends 12 = .ok (.aload_n 0, 1) := by decide +kernel
theorem dX11_ends_13 : decode cX11_ends 13 = .ok (.getfield 61, 3) := by decide +kernel
theorem dX11_ends_16 : decode cX11_ends 16 = .ok (.iload_n 1, 1) := by decide +kernel
theorem dX11_ends_17 : decode cX11_ends 17 = .ok (.iaload, 1) := by decide +kernel
theorem dX11_ends_18 : decode cX11_ends 18 = .ok (.goto 5, 3) := by decide +kernel
theorem dX11_ends_21 : decode cX11_ends 21 = .ok (.bipush (-2), 2) := by decide +kernel
theorem dX11_ends_23 : decode cX11_ends 23 = .ok (.ireturn, 1) := by decide +kernel
theorem dX11_farBy_0 : decode cX11_farBy 0 = .ok (.aload_n 0, 1) := by decide +kernel
theorem dX11_farBy_1 : decode cX11_farBy 1 = .ok (.getfield 43, 3) := by decide +kernel
theorem dX11_farBy_4 : decode cX11_farBy 4 = .ok (.bipush 8, 2) := by decide +kernel
theorem dX11_farBy_6 : decode cX11_farBy 6 = .ok (.iload_n 1, 1) := by decide +kernel
theorem dX11_farBy_7 : decode cX11_farBy 7 = .ok (.imul, 1) := by decide +kernel
theorem dX11_farBy_8 : decode cX11_farBy 8 = .ok (.iload_n 2, 1) := by decide +kernel
theorem dX11_farBy_9 : decode cX11_farBy 9 = .ok (.iadd, 1) := by decide +kernel
theorem dX11_farBy_10 : decode cX11_farBy 10 = .ok (.iaload, 1) := by decide +kernel
theorem dX11_farBy_11 : decode cX11_farBy 11 = .ok (.sipush 9999, 3) := by decide +kernel
theorem dX11_farBy_14 : decode cX11_farBy 14 = .ok (.if_icmp .ge 17, 3) := by decide +kernel
theorem dX11_farBy_17 : decode cX11_farBy 17 = .ok (.aload_n 0, 1) := by decide +kernel
theorem dX11_farBy_18 : decode cX11_farBy 18 = .ok (.getfield 43, 3) := by decide +kernel
theorem dX11_farBy_21 : decode cX11_farBy 21 = .ok (.bipush 8, 2) := by decide +kernel
theorem dX11_farBy_23 : decode cX11_farBy 23 = .ok (.iload_n 1, 1) := by decide +kernel
theorem dX11_farBy_24 : decode cX11_farBy 24 = .ok (.imul, 1) := by decide +kernel
theorem dX11_farBy_25 : decode cX11_farBy 25 = .ok (.iload_n 2, 1) := by decide +kernel
theorem dX11_farBy_26 : decode cX11_farBy 26 = .ok (.iadd, 1) := by decide +kernel
theorem dX11_farBy_27 : decode cX11_farBy 27 = .ok (.iaload, 1) := by decide +kernel
theorem dX11_farBy_28 : decode cX11_farBy 28 = .ok (.goto 4, 3) := by decide +kernel
theorem dX11_farBy_31 : decode cX11_farBy 31 = .ok (.iconst (-1), 1) := by decide +kernel
theorem dX11_farBy_32 : decode cX11_farBy 32 = .ok (.ireturn, 1) := by decide +kernel
theorem dX11_far_0 : decode cX11_far 0 = .ok (.aload_n 0, 1) := by decide +kernel
theorem dX11_far_1 : decode cX11_far 1 = .ok (.invokevirtual 218, 3) := by decide +kernel
theorem dX11_far_4 : decode cX11_far 4 = .ok (.iload_n 1, 1) := by decide +kernel
theorem dX11_far_5 : decode cX11_far 5 = .ok (.invokestatic 163, 3) := by decide +kernel
theorem dX11_far_8 : decode cX11_far 8 = .ok (.ifCond .eq 19, 3) := by decide +kernel
theorem dX11_far_11 : decode cX11_far 11 = .ok (.iload_n 2, 1) := by decide +kernel
theorem dX11_far_12 : decode cX11_far 12 = .ok (.invokestatic 163, 3) := by decide +kernel
theorem dX11_far_15 : decode cX11_far 15 = .ok (.ifCond .eq 12, 3) := by decide +kernel
theorem dX11_far_18 : decode cX11_far 18 = .ok (.aload_n 0, 1) := by decide +kernel
theorem dX11_far_19 : decode cX11_far 19 = .ok (.iload_n 1, 1) := by decide +kernel
theorem dX11_far_20 : decode cX11_far 20 = .ok (.iload_n 2, 1) := by decide +kernel
theorem dX11_far_21 : decode cX11_far 21 = .ok (.invokevirtual 221, 3) := by decide +kernel
theorem dX11_far_24 : decode cX11_far 24 = .ok (.goto 5, 3) := by decide +kernel
theorem dX11_far_27 : decode cX11_far 27 = .ok (.bipush (-2), 2) := by decide +kernel
theorem dX11_far_29 : decode cX11_far 29 = .ok (.ireturn, 1) := by decide +kernel
theorem dX11_whoBy_0 : decode cX11_whoBy 0 = .ok (.iconst 0, 1) := by decide +kernel
theorem dX11_whoBy_1 : decode cX11_whoBy 1 = .ok (.istore_n 2, 1) := by decide +kernel
theorem dX11_whoBy_2 : decode cX11_whoBy 2 = .ok (.iconst 0, 1) := by decide +kernel
theorem dX11_whoBy_3 : decode cX11_whoBy 3 = .ok (.istore_n 3, 1) := by decide +kernel
theorem dX11_whoBy_4 : decode cX11_whoBy 4 = .ok (.iload_n 3, 1) := by decide +kernel
theorem dX11_whoBy_5 : decode cX11_whoBy 5 = .ok (.aload_n 0, 1) := by decide +kernel
theorem dX11_whoBy_6 : decode cX11_whoBy 6 = .ok (.getfield 133, 3) := by decide +kernel
theorem dX11_whoBy_9 : decode cX11_whoBy 9 = .ok (.if_icmp .ge 29, 3) := by decide +kernel
theorem dX11_whoBy_12 : decode cX11_whoBy 12 = .ok (.iload_n 2, 1) := by decide +kernel
theorem dX11_whoBy_13 : decode cX11_whoBy 13 = .ok (.aload_n 0, 1) := by decide +kernel
theorem dX11_whoBy_14 : decode cX11_whoBy 14 = .ok (.getfield 46, 3) := by decide +kernel
theorem dX11_whoBy_17 : decode cX11_whoBy 17 = .ok (.iload_n 3, 1) := by decide +kernel
theorem dX11_whoBy_18 : decode cX11_whoBy 18 = .ok (.iaload, 1) := by decide +kernel
theorem dX11_whoBy_19 : decode cX11_whoBy 19 = .ok (.iload_n 1, 1) := by decide +kernel
theorem dX11_whoBy_20 : decode cX11_whoBy 20 = .ok (.if_icmp .ne 9, 3) := by decide +kernel
theorem dX11_whoBy_23 : decode cX11_whoBy 23 = .ok (.iconst 1, 1) := by decide +kernel
theorem dX11_whoBy_24 : decode cX11_whoBy 24 = .ok (.iload_n 3, 1) := by decide +kernel
theorem dX11_whoBy_25 : decode cX11_whoBy 25 = .ok (.ishl, 1) := by decide +kernel
theorem dX11_whoBy_26 : decode cX11_whoBy 26 = .ok (.goto 4, 3) := by decide +kernel
theorem dX11_whoBy_29 : decode cX11_whoBy 29 = .ok (.iconst 0, 1) := by decide +kernel
theorem dX11_whoBy_30 : decode cX11_whoBy 30 = .ok (.ior, 1) := by decide +kernel
theorem dX11_whoBy_31 : decode cX11_whoBy 31 = .ok (.istore_n 2, 1) := by decide +kernel
theorem dX11_whoBy_32 : decode cX11_whoBy 32 = .ok (.iinc 3 1, 3) := by decide +kernel
theorem dX11_whoBy_35 : decode cX11_whoBy 35 = .ok (.goto (-31), 3) := by decide +kernel
theorem dX11_whoBy_38 : decode cX11_whoBy 38 = .ok (.iload_n 2, 1) := by decide +kernel
theorem dX11_whoBy_39 : decode cX11_whoBy 39 = .ok (.ireturn, 1) := by decide +kernel
theorem dX11_who_0 : decode cX11_who 0 = .ok (.aload_n 0, 1) := by decide +kernel
theorem dX11_who_1 : decode cX11_who 1 = .ok (.invokevirtual 218, 3) := by decide +kernel
theorem dX11_who_4 : decode cX11_who 4 = .ok (.iload_n 1, 1) := by decide +kernel
theorem dX11_who_5 : decode cX11_who 5 = .ok (.i2l, 1) := by decide +kernel
theorem dX11_who_6 : decode cX11_who 6 = .ok (.ldc2_w 95, 3) := by decide +kernel
theorem dX11_who_9 : decode cX11_who 9 = .ok (.ldc2_w 224, 3) := by decide +kernel
theorem dX11_who_12 : decode cX11_who 12 = .ok (.invokestatic 81, 3) := by decide +kernel
theorem dX11_who_15 : decode cX11_who 15 = .ok (.ifCond .eq 11, 3) := by decide +kernel
theorem dX11_who_18 : decode cX11_who 18 = .ok (.aload_n 0, 1) := by decide +kernel
theorem dX11_who_19 : decode cX11_who 19 = .ok (.iload_n 1, 1) := by decide +kernel
theorem dX11_who_20 : decode cX11_who 20 = .ok (.invokevirtual 226, 3) := by decide +kernel
theorem dX11_who_23 : decode cX11_who 23 = .ok (.goto 5, 3) := by decide +kernel
theorem dX11_who_26 : decode cX11_who 26 = .ok (.bipush (-2), 2) := by decide +kernel
theorem dX11_who_28 : decode cX11_who 28 = .ok (.ireturn, 1) := by decide +kernel
theorem dX11_met_0 : decode cX11_met 0 = .ok (.aload_n 0, 1) := by decide +kernel
theorem dX11_met_1 : decode cX11_met 1 = .ok (.invokevirtual 218, 3) := by decide +kernel
theorem dX11_met_4 : decode cX11_met 4 = .ok (.iload_n 1, 1) := by decide +kernel
theorem dX11_met_5 : decode cX11_met 5 = .ok (.invokestatic 110, 3) := by decide +kernel
theorem dX11_met_8 : decode cX11_met 8 = .ok (.ifCond .ne 8, 3) := by decide +kernel
theorem dX11_met_11 : decode cX11_met 11 = .ok (.bipush (-2), 2) := by decide +kernel
theorem dX11_met_13 : decode cX11_met 13 = .ok (.goto 18, 3) := by decide +kernel
theorem dX11_met_16 : decode cX11_met 16 = .ok (.iload_n 1, 1) := by decide +kernel
theorem dX11_met_17 : decode cX11_met 17 = .ok (.ifCond .ne 10, 3) := by decide +kernel
theorem dX11_met_20 : decode cX11_met 20 = .ok (.aload_n 0, 1) := by decide +kernel
theorem dX11_met_21 : decode cX11_met 21 = .ok (.getfield 195, 3) := by decide +kernel
theorem dX11_met_24 : decode cX11_met 24 = .ok (.goto 7, 3) := by decide +kernel
theorem dX11_met_27 : decode cX11_met 27 = .ok (.aload_n 0, 1) := by decide +kernel
theorem dX11_met_28 : decode cX11_met 28 = .ok (.getfield 198, 3) := by decide +kernel
theorem dX11_met_31 : decode cX11_met 31 = .ok (.ireturn, 1) := by decide +kernel
theorem dX11_busiestNow_0 : decode cX11_busiestNow 0 = .ok (.iconst (-1), 1) := by decide +kernel
theorem dX11_busiestNow_1 : decode cX11_busiestNow 1 = .ok (.istore_n 1, 1) := by decide +kernel
theorem dX11_busiestNow_2 : decode cX11_busiestNow 2 = .ok (.iconst 0, 1) := by decide +kernel
theorem dX11_busiestNow_3 : decode cX11_busiestNow 3 = .ok (.istore_n 2, 1) := by decide +kernel
theorem dX11_busiestNow_4 : decode cX11_busiestNow 4 = .ok (.iconst 0, 1) := by decide +kernel
theorem dX11_busiestNow_5 : decode cX11_busiestNow 5 = .ok (.istore_n 3, 1) := by decide +kernel
theorem dX11_busiestNow_6 : decode cX11_busiestNow 6 = .ok (.iload_n 3, 1) := by decide +kernel
theorem dX11_busiestNow_7 : decode cX11_busiestNow 7 = .ok (.bipush 8, 2) := by decide +kernel
theorem dX11_busiestNow_9 : decode cX11_busiestNow 9 = .ok (.if_icmp .ge 36, 3) := by decide +kernel
theorem dX11_busiestNow_12 : decode cX11_busiestNow 12 = .ok (.aload_n 0, 1) := by decide +kernel
theorem dX11_busiestNow_13 : decode cX11_busiestNow 13 = .ok (.getfield 70, 3) := by decide +kernel
theorem dX11_busiestNow_16 : decode cX11_busiestNow 16 = .ok (.iload_n 3, 1) := by decide +kernel
theorem dX11_busiestNow_17 : decode cX11_busiestNow 17 = .ok (.iaload, 1) := by decide +kernel
theorem dX11_busiestNow_18 : decode cX11_busiestNow 18 = .ok (.iload_n 2, 1) := by decide +kernel
theorem dX11_busiestNow_19 : decode cX11_busiestNow 19 = .ok (.if_icmp .le 7, 3) := by decide +kernel
theorem dX11_busiestNow_22 : decode cX11_busiestNow 22 = .ok (.iload_n 3, 1) := by decide +kernel
theorem dX11_busiestNow_23 : decode cX11_busiestNow 23 = .ok (.goto 4, 3) := by decide +kernel
theorem dX11_busiestNow_26 : decode cX11_busiestNow 26 = .ok (.iload_n 1, 1) := by decide +kernel
theorem dX11_busiestNow_27 : decode cX11_busiestNow 27 = .ok (.istore_n 1, 1) := by decide +kernel
theorem dX11_busiestNow_28 : decode cX11_busiestNow 28 = .ok (.aload_n 0, 1) := by decide +kernel
theorem dX11_busiestNow_29 : decode cX11_busiestNow 29 = .ok (.getfield 70, 3) := by decide +kernel
theorem dX11_busiestNow_32 : decode cX11_busiestNow 32 = .ok (.iload_n 3, 1) := by decide +kernel
theorem dX11_busiestNow_33 : decode cX11_busiestNow 33 = .ok (.iaload, 1) := by decide +kernel
theorem dX11_busiestNow_34 : decode cX11_busiestNow 34 = .ok (.iload_n 2, 1) := by decide +kernel
theorem dX11_busiestNow_35 : decode cX11_busiestNow 35 = .ok (.invokestatic 229, 3) := by decide +kernel
theorem dX11_busiestNow_38 : decode cX11_busiestNow 38 = .ok (.istore_n 2, 1) := by decide +kernel
theorem dX11_busiestNow_39 : decode cX11_busiestNow 39 = .ok (.iinc 3 1, 3) := by decide +kernel
theorem dX11_busiestNow_42 : decode cX11_busiestNow 42 = .ok (.goto (-36), 3) := by decide +kernel
theorem dX11_busiestNow_45 : decode cX11_busiestNow 45 = .ok (.iload_n 1, 1) := by decide +kernel
theorem dX11_busiestNow_46 : decode cX11_busiestNow 46 = .ok (.ireturn, 1) := by decide +kernel
theorem dX11_busiest_0 : decode cX11_busiest 0 = .ok (.aload_n 0, 1) := by decide +kernel
theorem dX11_busiest_1 : decode cX11_busiest 1 = .ok (.invokevirtual 218, 3) := by decide +kernel
theorem dX11_busiest_4 : decode cX11_busiest 4 = .ok (.aload_n 0, 1) := by decide +kernel
theorem dX11_busiest_5 : decode cX11_busiest 5 = .ok (.invokevirtual 232, 3) := by decide +kernel
theorem dX11_busiest_8 : decode cX11_busiest 8 = .ok (.ireturn, 1) := by decide +kernel
theorem dX11_comers_0 : decode cX11_comers 0 = .ok (.aload_n 0, 1) := by decide +kernel
theorem dX11_comers_1 : decode cX11_comers 1 = .ok (.iconst 2, 1) := by decide +kernel
theorem dX11_comers_2 : decode cX11_comers 2 = .ok (.invokevirtual 226, 3) := by decide +kernel
theorem dX11_comers_5 : decode cX11_comers 5 = .ok (.invokestatic 235, 3) := by decide +kernel
theorem dX11_comers_8 : decode cX11_comers 8 = .ok (.ireturn, 1) := by decide +kernel
theorem dX11_needsOf_0 : decode cX11_needsOf 0 = .ok (.aload_n 0, 1) := by decide +kernel
theorem dX11_needsOf_1 : decode cX11_needsOf 1 = .ok (.getfield 31, 3) := by decide +kernel
theorem dX11_needsOf_4 : decode cX11_needsOf 4 = .ok (.iconst 5, 1) := by decide +kernel
theorem dX11_needsOf_5 : decode cX11_needsOf 5 = .ok (.iload_n 1, 1) := by decide +kernel
theorem dX11_needsOf_6 : decode cX11_needsOf 6 = .ok (.imul, 1) := by decide +kernel
theorem dX11_needsOf_7 : decode cX11_needsOf 7 = .ok (.iconst 3, 1) := by decide +kernel
theorem dX11_needsOf_8 : decode cX11_needsOf 8 = .ok (.iadd, 1) := by decide +kernel
theorem dX11_needsOf_9 : decode cX11_needsOf 9 = .ok (.iaload, 1) := by decide +kernel
theorem dX11_needsOf_10 : decode cX11_needsOf 10 = .ok (.istore_n 2, 1) := by decide +kernel
theorem dX11_needsOf_11 : decode cX11_needsOf 11 = .ok (.iconst (-1), 1) := by decide +kernel
theorem dX11_needsOf_12 : decode cX11_needsOf 12 = .ok (.istore_n 3, 1) := by decide +kernel
theorem dX11_needsOf_13 : decode cX11_needsOf 13 = .ok (.bipush 99, 2) := by decide +kernel
theorem dX11_needsOf_15 : decode cX11_needsOf 15 = .ok (.istore 4, 2) := by decide +kernel
theorem dX11_needsOf_17 : decode cX11_needsOf 17 = .ok (.iload 4, 2) := by decide +kernel
theorem dX11_needsOf_19 : decode cX11_needsOf 19 = .ok (.ifCond .lt 42, 3) := by decide +kernel
theorem dX11_needsOf_22 : decode cX11_needsOf 22 = .ok (.aload_n 0, 1) := by decide +kernel
theorem dX11_needsOf_23 : decode cX11_needsOf 23 = .ok (.getfield 31, 3) := by decide +kernel
theorem dX11_needsOf_26 : decode cX11_needsOf 26 = .ok (.iconst 5, 1) := by decide +kernel
theorem dX11_needsOf_27 : decode cX11_needsOf 27 = .ok (.iload_n 1, 1) := by decide +kernel
theorem dX11_needsOf_28 : decode cX11_needsOf 28 = .ok (.imul, 1) := by decide +kernel
theorem dX11_needsOf_29 : decode cX11_needsOf 29 = .ok (.iconst 3, 1) := by decide +kernel
theorem dX11_needsOf_30 : decode cX11_needsOf 30 = .ok (.iadd, 1) := by decide +kernel
theorem dX11_needsOf_31 : decode cX11_needsOf 31 = .ok (.iload 4, 2) := by decide +kernel
theorem dX11_needsOf_33 : decode cX11_needsOf 33 = .ok (.iastore, 1) := by decide +kernel
theorem dX11_needsOf_34 : decode cX11_needsOf 34 = .ok (.aload_n 0, 1) := by decide +kernel
theorem dX11_needsOf_35 : decode cX11_needsOf 35 = .ok (.invokevirtual 215, 3) := by decide +kernel
theorem dX11_needsOf_38 : decode cX11_needsOf 38 = .ok (.aload_n 0, 1) := by decide +kernel
theorem dX11_needsOf_39 : decode cX11_needsOf 39 = .ok (.getfield 46, 3) := by decide +kernel
theorem dX11_needsOf_42 : decode cX11_needsOf 42 = .ok (.iload_n 1, 1) := by decide +kernel
theorem dX11_needsOf_43 : decode cX11_needsOf 43 = .ok (.iaload, 1) := by decide +kernel
theorem dX11_needsOf_44 : decode cX11_needsOf 44 = .ok (.iconst 2, 1) := by decide +kernel
theorem dX11_needsOf_45 : decode cX11_needsOf 45 = .ok (.if_icmp .ne 8, 3) := by decide +kernel
theorem dX11_needsOf_48 : decode cX11_needsOf 48 = .ok (.iload 4, 2) := by decide +kernel
theorem dX11_needsOf_50 : decode cX11_needsOf 50 = .ok (.goto 4, 3) := by decide +kernel
theorem dX11_needsOf_53 : decode cX11_needsOf 53 = .ok (.iload_n 3, 1) := by decide +kernel
theorem dX11_needsOf_54 : decode cX11_needsOf 54 = .ok (.istore_n 3, 1) := by decide +kernel
theorem dX11_needsOf_55 : decode cX11_needsOf 55 = .ok (.iinc 4 (-1), 3) := by decide +kernel
theorem dX11_needsOf_58 : decode cX11_needsOf 58 = .ok (.goto (-41), 3) := by decide +kernel
theorem dX11_needsOf_61 : decode cX11_needsOf 61 = .ok (.aload_n 0, 1) := by decide +kernel
theorem dX11_needsOf_62 : decode cX11_needsOf 62 = .ok (.getfield 31, 3) := by decide +kernel
theorem dX11_needsOf_65 : decode cX11_needsOf 65 = .ok (.iconst 5, 1) := by decide +kernel
theorem dX11_needsOf_66 : decode cX11_needsOf 66 = .ok (.iload_n 1, 1) := by decide +kernel
theorem dX11_needsOf_67 : decode cX11_needsOf 67 = .ok (.imul, 1) := by decide +kernel
theorem dX11_needsOf_68 : decode cX11_needsOf 68 = .ok (.iconst 3, 1) := by decide +kernel
theorem dX11_needsOf_69 : decode cX11_needsOf 69 = .ok (.iadd, 1) := by decide +kernel
theorem dX11_needsOf_70 : decode cX11_needsOf 70 = .ok (.iload_n 2, 1) := by decide +kernel
theorem dX11_needsOf_71 : decode cX11_needsOf 71 = .ok (.iastore, 1) := by decide +kernel
theorem dX11_needsOf_72 : decode cX11_needsOf 72 = .ok (.iload_n 3, 1) := by decide +kernel
theorem dX11_needsOf_73 : decode cX11_needsOf 73 = .ok (.ireturn, 1) := by decide +kernel
theorem dX11_needs_0 : decode cX11_needs 0 = .ok (.aload_n 0, 1) := by decide +kernel
theorem dX11_needs_1 : decode cX11_needs 1 = .ok (.invokevirtual 218, 3) := by decide +kernel
theorem dX11_needs_4 : decode cX11_needs 4 = .ok (.aload_n 0, 1) := by decide +kernel
theorem dX11_needs_5 : decode cX11_needs 5 = .ok (.iload_n 1, 1) := by decide +kernel
theorem dX11_needs_6 : decode cX11_needs 6 = .ok (.invokevirtual 153, 3) := by decide +kernel
theorem dX11_needs_9 : decode cX11_needs 9 = .ok (.ifCond .eq 11, 3) := by decide +kernel
theorem dX11_needs_12 : decode cX11_needs 12 = .ok (.aload_n 0, 1) := by decide +kernel
theorem dX11_needs_13 : decode cX11_needs 13 = .ok (.iload_n 1, 1) := by decide +kernel
theorem dX11_needs_14 : decode cX11_needs 14 = .ok (.invokevirtual 238, 3) := by decide +kernel
theorem dX11_needs_17 : decode cX11_needs 17 = .ok (.goto 5, 3) := by decide +kernel
theorem dX11_needs_20 : decode cX11_needs 20 = .ok (.bipush (-2), 2) := by decide +kernel
theorem dX11_needs_22 : decode cX11_needs 22 = .ok (.ireturn, 1) := by decide +kernel
theorem dX11_lends_0 : decode cX11_lends 0 = .ok (.iconst 2, 1) := by decide +kernel
theorem dX11_lends_1 : decode cX11_lends 1 = .ok (.istore_n 3, 1) := by decide +kernel
theorem dX11_lends_2 : decode cX11_lends 2 = .ok (.iload_n 3, 1) := by decide +kernel
theorem dX11_lends_3 : decode cX11_lends 3 = .ok (.iconst 4, 1) := by decide +kernel
theorem dX11_lends_4 : decode cX11_lends 4 = .ok (.if_icmp .ge 53, 3) := by decide +kernel
theorem dX11_lends_7 : decode cX11_lends 7 = .ok (.aload_n 0, 1) := by decide +kernel
theorem dX11_lends_8 : decode cX11_lends 8 = .ok (.getfield 31, 3) := by decide +kernel
theorem dX11_lends_11 : decode cX11_lends 11 = .ok (.iconst 5, 1) := by decide +kernel
theorem dX11_lends_12 : decode cX11_lends 12 = .ok (.iload_n 1, 1) := by decide +kernel
theorem dX11_lends_13 : decode cX11_lends 13 = .ok (.imul, 1) := by decide +kernel
theorem dX11_lends_14 : decode cX11_lends 14 = .ok (.iload_n 3, 1) := by decide +kernel
theorem dX11_lends_15 : decode cX11_lends 15 = .ok (.iadd, 1) := by decide +kernel
theorem dX11_lends_16 : decode cX11_lends 16 = .ok (.iaload, 1) := by decide +kernel
theorem dX11_lends_17 : decode cX11_lends 17 = .ok (.istore 4, 2) := by decide +kernel
theorem dX11_lends_19 : decode cX11_lends 19 = .ok (.aload_n 0, 1) := by decide +kernel
theorem dX11_lends_20 : decode cX11_lends 20 = .ok (.getfield 31, 3) := by decide +kernel
theorem dX11_lends_23 : decode cX11_lends 23 = .ok (.iconst 5, 1) := by decide +kernel
theorem dX11_lends_24 : decode cX11_lends 24 = .ok (.iload_n 1, 1) := by decide +kernel
theorem dX11_lends_25 : decode cX11_lends 25 = .ok (.imul, 1) := by decide +kernel
theorem dX11_lends_26 : decode cX11_lends 26 = .ok (.iload_n 3, 1) := by decide +kernel
theorem dX11_lends_27 : decode cX11_lends 27 = .ok (.iadd, 1) := by decide +kernel
theorem dX11_lends_28 : decode cX11_lends 28 = .ok (.aload_n 0, 1) := by decide +kernel
theorem dX11_lends_29 : decode cX11_lends 29 = .ok (.getfield 31, 3) := by decide +kernel
theorem dX11_lends_32 : decode cX11_lends 32 = .ok (.iconst 5, 1) := by decide +kernel
theorem dX11_lends_33 : decode cX11_lends 33 = .ok (.iload_n 2, 1) := by decide +kernel
theorem dX11_lends_34 : decode cX11_lends 34 = .ok (.imul, 1) := by decide +kernel
theorem dX11_lends_35 : decode cX11_lends 35 = .ok (.iload_n 3, 1) := by decide +kernel
theorem dX11_lends_36 : decode cX11_lends 36 = .ok (.iadd, 1) := by decide +kernel
theorem dX11_lends_37 : decode cX11_lends 37 = .ok (.iaload, 1) := by decide +kernel
theorem dX11_lends_38 : decode cX11_lends 38 = .ok (.iastore, 1) := by decide +kernel
theorem dX11_lends_39 : decode cX11_lends 39 = .ok (.aload_n 0, 1) := by decide +kernel
theorem dX11_lends_40 : decode cX11_lends 40 = .ok (.getfield 31, 3) := by decide +kernel
theorem dX11_lends_43 : decode cX11_lends 43 = .ok (.iconst 5, 1) := by decide +kernel
theorem dX11_lends_44 : decode cX11_lends 44 = .ok (.iload_n 2, 1) := by decide +kernel
theorem dX11_lends_45 : decode cX11_lends 45 = .ok (.imul, 1) := by decide +kernel
theorem dX11_lends_46 : decode cX11_lends 46 = .ok (.iload_n 3, 1) := by decide +kernel
theorem dX11_lends_47 : decode cX11_lends 47 = .ok (.iadd, 1) := by decide +kernel
theorem dX11_lends_48 : decode cX11_lends 48 = .ok (.iload 4, 2) := by decide +kernel
theorem dX11_lends_50 : decode cX11_lends 50 = .ok (.iastore, 1) := by decide +kernel
theorem dX11_lends_51 : decode cX11_lends 51 = .ok (.iinc 3 1, 3) := by decide +kernel
theorem dX11_lends_54 : decode cX11_lends 54 = .ok (.goto (-52), 3) := by decide +kernel
theorem dX11_lends_57 : decode cX11_lends 57 = .ok (.return_, 1) := by decide +kernel
theorem dX11_lendBy_0 : decode cX11_lendBy 0 = .ok (.iconst (-1), 1) := by decide +kernel
theorem dX11_lendBy_1 : decode cX11_lendBy 1 = .ok (.istore_n 2, 1) := by decide +kernel
theorem dX11_lendBy_2 : decode cX11_lendBy 2 = .ok (.iconst (-1), 1) := by decide +kernel
theorem dX11_lendBy_3 : decode cX11_lendBy 3 = .ok (.istore_n 3, 1) := by decide +kernel
theorem dX11_lendBy_4 : decode cX11_lendBy 4 = .ok (.iconst 0, 1) := by decide +kernel
theorem dX11_lendBy_5 : decode cX11_lendBy 5 = .ok (.istore 4, 2) := by decide +kernel
theorem dX11_lendBy_7 : decode cX11_lendBy 7 = .ok (.iload 4, 2) := by decide +kernel
theorem dX11_lendBy_9 : decode cX11_lendBy 9 = .ok (.bipush 64, 2) := by decide +kernel
theorem dX11_lendBy_11 : decode cX11_lendBy 11 = .ok (.if_icmp .ge 85, 3) := by decide +kernel
theorem dX11_lendBy_14 : decode cX11_lendBy 14 = .ok (.iload 4, 2) := by decide +kernel
theorem dX11_lendBy_16 : decode cX11_lendBy 16 = .ok (.bipush 8, 2) := by decide +kernel
theorem dX11_lendBy_18 : decode cX11_lendBy 18 = .ok (.idiv, 1) := by decide +kernel
theorem dX11_lendBy_19 : decode cX11_lendBy 19 = .ok (.istore 5, 2) := by decide +kernel
theorem dX11_lendBy_21 : decode cX11_lendBy 21 = .ok (.iload 4, 2) := by decide +kernel
theorem dX11_lendBy_23 : decode cX11_lendBy 23 = .ok (.bipush 8, 2) := by decide +kernel
theorem dX11_lendBy_25 : decode cX11_lendBy 25 = .ok (.irem, 1) := by decide +kernel
theorem dX11_lendBy_26 : decode cX11_lendBy 26 = .ok (.istore 6, 2) := by decide +kernel
theorem dX11_lendBy_28 : decode cX11_lendBy 28 = .ok (.iload 5, 2) := by decide +kernel
theorem dX11_lendBy_30 : decode cX11_lendBy 30 = .ok (.iload 6, 2) := by decide +kernel
theorem dX11_lendBy_32 : decode cX11_lendBy 32 = .ok (.if_icmp .ge 58, 3) := by decide +kernel
theorem dX11_lendBy_35 : decode cX11_lendBy 35 = .ok (.iload 6, 2) := by decide +kernel
theorem dX11_lendBy_37 : decode cX11_lendBy 37 = .ok (.aload_n 0, 1) := by decide +kernel
theorem dX11_lendBy_38 : decode cX11_lendBy 38 = .ok (.getfield 133, 3) := by decide +kernel
theorem dX11_lendBy_41 : decode cX11_lendBy 41 = .ok (.if_icmp .ge 49, 3) := by decide +kernel
theorem dX11_lendBy_44 : decode cX11_lendBy 44 = .ok (.aload_n 0, 1) := by decide +kernel
theorem dX11_lendBy_45 : decode cX11_lendBy 45 = .ok (.iload 5, 2) := by decide +kernel
theorem dX11_lendBy_47 : decode cX11_lendBy 47 = .ok (.iload 6, 2) := by decide +kernel
theorem dX11_lendBy_49 : decode cX11_lendBy 49 = .ok (.invokevirtual 241, 3) := by decide +kernel
theorem dX11_lendBy_52 : decode cX11_lendBy 52 = .ok (.aload_n 0, 1) := by decide +kernel
theorem dX11_lendBy_53 : decode cX11_lendBy 53 = .ok (.invokevirtual 215, 3) := by decide +kernel
theorem dX11_lendBy_56 : decode cX11_lendBy 56 = .ok (.aload_n 0, 1) := by decide +kernel
theorem dX11_lendBy_57 : decode cX11_lendBy 57 = .ok (.invokevirtual 244, 3) := by decide +kernel
theorem dX11_lendBy_60 : decode cX11_lendBy 60 = .ok (.istore 7, 2) := by decide +kernel
theorem dX11_lendBy_62 : decode cX11_lendBy 62 = .ok (.iload 7, 2) := by decide +kernel
theorem dX11_lendBy_64 : decode cX11_lendBy 64 = .ok (.iload_n 3, 1) := by decide +kernel
theorem dX11_lendBy_65 : decode cX11_lendBy 65 = .ok (.if_icmp .le 8, 3) := by decide +kernel
theorem dX11_lendBy_68 : decode cX11_lendBy 68 = .ok (.iload 4, 2) := by decide +kernel
theorem dX11_lendBy_70 : decode cX11_lendBy 70 = .ok (.goto 4, 3) := by decide +kernel
theorem dX11_lendBy_73 : decode cX11_lendBy 73 = .ok (.iload_n 2, 1) := by decide +kernel
theorem dX11_lendBy_74 : decode cX11_lendBy 74 = .ok (.istore_n 2, 1) := by decide +kernel
theorem dX11_lendBy_75 : decode cX11_lendBy 75 = .ok (.iload 7, 2) := by decide +kernel
theorem dX11_lendBy_77 : decode cX11_lendBy 77 = .ok (.iload_n 3, 1) := by decide +kernel
theorem dX11_lendBy_78 : decode cX11_lendBy 78 = .ok (.invokestatic 229, 3) := by decide +kernel
theorem dX11_lendBy_81 : decode cX11_lendBy 81 = .ok (.istore_n 3, 1) := by decide +kernel
theorem dX11_lendBy_82 : decode cX11_lendBy 82 = .ok (.aload_n 0, 1) := by decide +kernel
theorem dX11_lendBy_83 : decode cX11_lendBy 83 = .ok (.iload 5, 2) := by decide +kernel
theorem dX11_lendBy_85 : decode cX11_lendBy 85 = .ok (.iload 6, 2) := by decide +kernel
theorem dX11_lendBy_87 : decode cX11_lendBy 87 = .ok (.invokevirtual 241, 3) := by decide +kernel
theorem dX11_lendBy_90 : decode cX11_lendBy 90 = .ok (.iinc 4 1, 3) := by decide +kernel
theorem dX11_lendBy_93 : decode cX11_lendBy 93 = .ok (.goto (-86), 3) := by decide +kernel
theorem dX11_lendBy_96 : decode cX11_lendBy 96 = .ok (.iload_n 2, 1) := by decide +kernel
theorem dX11_lendBy_97 : decode cX11_lendBy 97 = .ok (.iconst (-1), 1) := by decide +kernel
theorem dX11_lendBy_98 : decode cX11_lendBy 98 = .ok (.if_icmp .ne 7, 3) := by decide +kernel
theorem dX11_lendBy_101 : decode cX11_lendBy 101 = .ok (.iconst (-1), 1) := by decide +kernel
theorem dX11_lendBy_102 : decode cX11_lendBy 102 = .ok (.goto 27, 3) := by decide +kernel
theorem dX11_lendBy_105 : decode cX11_lendBy 105 = .ok (.iload_n 1, 1) := by decide +kernel
theorem dX11_lendBy_106 : decode cX11_lendBy 106 = .ok (.ifCond .ne 10, 3) := by decide +kernel
theorem dX11_lendBy_109 : decode cX11_lendBy 109 = .ok (.iload_n 2, 1) := by decide +kernel
theorem dX11_lendBy_110 : decode cX11_lendBy 110 = .ok (.bipush 8, 2) := by decide +kernel
theorem dX11_lendBy_112 : decode cX11_lendBy 112 = .ok (.idiv, 1) := by decide +kernel
theorem dX11_lendBy_113 : decode cX11_lendBy 113 = .ok (.goto 16, 3) := by decide +kernel
theorem dX11_lendBy_116 : decode cX11_lendBy 116 = .ok (.iload_n 1, 1) := by decide +kernel
theorem dX11_lendBy_117 : decode cX11_lendBy 117 = .ok (.iconst 1, 1) := by decide +kernel
theorem dX11_lendBy_118 : decode cX11_lendBy 118 = .ok (.if_icmp .ne 10, 3) := by decide +kernel
theorem dX11_lendBy_121 : decode cX11_lendBy 121 = .ok (.iload_n 2, 1) := by decide +kernel
theorem dX11_lendBy_122 : decode cX11_lendBy 122 = .ok (.bipush 8, 2) := by decide +kernel
theorem dX11_lendBy_124 : decode cX11_lendBy 124 = .ok (.irem, 1) := by decide +kernel
theorem dX11_lendBy_125 : decode cX11_lendBy 125 = .ok (.goto 4, 3) := by decide +kernel
theorem dX11_lendBy_128 : decode cX11_lendBy 128 = .ok (.iload_n 3, 1) := by decide +kernel
theorem dX11_lendBy_129 : decode cX11_lendBy 129 = .ok (.ireturn, 1) := by decide +kernel
theorem dX11_lend_0 : decode cX11_lend 0 = .ok (.aload_n 0, 1) := by decide +kernel
theorem dX11_lend_1 : decode cX11_lend 1 = .ok (.invokevirtual 218, 3) := by decide +kernel
theorem dX11_lend_4 : decode cX11_lend 4 = .ok (.iload_n 1, 1) := by decide +kernel
theorem dX11_lend_5 : decode cX11_lend 5 = .ok (.i2l, 1) := by decide +kernel
theorem dX11_lend_6 : decode cX11_lend 6 = .ok (.lconst 0, 1) := by decide +kernel
theorem dX11_lend_7 : decode cX11_lend 7 = .ok (.ldc2_w 95, 3) := by decide +kernel
theorem dX11_lend_10 : decode cX11_lend 10 = .ok (.invokestatic 81, 3) := by decide +kernel
theorem dX11_lend_13 : decode cX11_lend 13 = .ok (.ifCond .eq 11, 3) := by decide +kernel
theorem dX11_lend_16 : decode cX11_lend 16 = .ok (.aload_n 0, 1) := by decide +kernel
theorem dX11_lend_17 : decode cX11_lend 17 = .ok (.iload_n 1, 1) := by decide +kernel
theorem dX11_lend_18 : decode cX11_lend 18 = .ok (.invokevirtual 247, 3) := by decide +kernel
theorem dX11_lend_21 : decode cX11_lend 21 = .ok (.goto 5, 3) := by decide +kernel
theorem dX11_lend_24 : decode cX11_lend 24 = .ok (.bipush (-2), 2) := by decide +kernel
theorem dX11_lend_26 : decode cX11_lend 26 = .ok (.ireturn, 1) := by decide +kernel
theorem dX11_delayOf_0 : decode cX11_delayOf 0 = .ok (.aload_n 0, 1) := by decide +kernel
theorem dX11_delayOf_1 : decode cX11_delayOf 1 = .ok (.getfield 34, 3) := by decide +kernel
theorem dX11_delayOf_4 : decode cX11_delayOf 4 = .ok (.iload_n 1, 1) := by decide +kernel
theorem dX11_delayOf_5 : decode cX11_delayOf 5 = .ok (.iaload, 1) := by decide +kernel
theorem dX11_delayOf_6 : decode cX11_delayOf 6 = .ok (.istore_n 3, 1) := by decide +kernel
theorem dX11_delayOf_7 : decode cX11_delayOf 7 = .ok (.iconst (-1), 1) := by decide +kernel
theorem dX11_delayOf_8 : decode cX11_delayOf 8 = .ok (.istore 4, 2) := by decide +kernel
theorem dX11_delayOf_10 : decode cX11_delayOf 10 = .ok (.iconst (-1), 1) := by decide +kernel
theorem dX11_delayOf_11 : decode cX11_delayOf 11 = .ok (.istore 5, 2) := by decide +kernel
theorem dX11_delayOf_13 : decode cX11_delayOf 13 = .ok (.iconst 0, 1) := by decide +kernel
theorem dX11_delayOf_14 : decode cX11_delayOf 14 = .ok (.istore 6, 2) := by decide +kernel
theorem dX11_delayOf_16 : decode cX11_delayOf 16 = .ok (.iload 6, 2) := by decide +kernel
theorem dX11_delayOf_18 : decode cX11_delayOf 18 = .ok (.bipush 10, 2) := by decide +kernel
theorem dX11_delayOf_20 : decode cX11_delayOf 20 = .ok (.if_icmp .ge 52, 3) := by decide +kernel
theorem dX11_delayOf_23 : decode cX11_delayOf 23 = .ok (.aload_n 0, 1) := by decide +kernel
theorem dX11_delayOf_24 : decode cX11_delayOf 24 = .ok (.getfield 34, 3) := by decide +kernel
theorem dX11_delayOf_27 : decode cX11_delayOf 27 = .ok (.iload_n 1, 1) := by decide +kernel
theorem dX11_delayOf_28 : decode cX11_delayOf 28 = .ok (.iload 6, 2) := by decide +kernel
theorem dX11_delayOf_30 : decode cX11_delayOf 30 = .ok (.iastore, 1) := by decide +kernel
theorem dX11_delayOf_31 : decode cX11_delayOf 31 = .ok (.aload_n 0, 1) := by decide +kernel
theorem dX11_delayOf_32 : decode cX11_delayOf 32 = .ok (.invokevirtual 215, 3) := by decide +kernel
theorem dX11_delayOf_35 : decode cX11_delayOf 35 = .ok (.aload_n 0, 1) := by decide +kernel
theorem dX11_delayOf_36 : decode cX11_delayOf 36 = .ok (.invokevirtual 244, 3) := by decide +kernel
theorem dX11_delayOf_39 : decode cX11_delayOf 39 = .ok (.istore 7, 2) := by decide +kernel
theorem dX11_delayOf_41 : decode cX11_delayOf 41 = .ok (.iload 7, 2) := by decide +kernel
theorem dX11_delayOf_43 : decode cX11_delayOf 43 = .ok (.iload 5, 2) := by decide +kernel
theorem dX11_delayOf_45 : decode cX11_delayOf 45 = .ok (.if_icmp .le 8, 3) := by decide +kernel
theorem dX11_delayOf_48 : decode cX11_delayOf 48 = .ok (.iload 6, 2) := by decide +kernel
theorem dX11_delayOf_50 : decode cX11_delayOf 50 = .ok (.goto 5, 3) := by decide +kernel
theorem dX11_delayOf_53 : decode cX11_delayOf 53 = .ok (.iload 4, 2) := by decide +kernel
theorem dX11_delayOf_55 : decode cX11_delayOf 55 = .ok (.istore 4, 2) := by decide +kernel
theorem dX11_delayOf_57 : decode cX11_delayOf 57 = .ok (.iload 7, 2) := by decide +kernel
theorem dX11_delayOf_59 : decode cX11_delayOf 59 = .ok (.iload 5, 2) := by decide +kernel
theorem dX11_delayOf_61 : decode cX11_delayOf 61 = .ok (.invokestatic 229, 3) := by decide +kernel
theorem dX11_delayOf_64 : decode cX11_delayOf 64 = .ok (.istore 5, 2) := by decide +kernel
theorem dX11_delayOf_66 : decode cX11_delayOf 66 = .ok (.iinc 6 1, 3) := by decide +kernel
theorem dX11_delayOf_69 : decode cX11_delayOf 69 = .ok (.goto (-53), 3) := by decide +kernel
theorem dX11_delayOf_72 : decode cX11_delayOf 72 = .ok (.aload_n 0, 1) := by decide +kernel
theorem dX11_delayOf_73 : decode cX11_delayOf 73 = .ok (.getfield 34, 3) := by decide +kernel
theorem dX11_delayOf_76 : decode cX11_delayOf 76 = .ok (.iload_n 1, 1) := by decide +kernel
theorem dX11_delayOf_77 : decode cX11_delayOf 77 = .ok (.iload_n 3, 1) := by decide +kernel
theorem dX11_delayOf_78 : decode cX11_delayOf 78 = .ok (.iastore, 1) := by decide +kernel
theorem dX11_delayOf_79 : decode cX11_delayOf 79 = .ok (.iload_n 2, 1) := by decide +kernel
theorem dX11_delayOf_80 : decode cX11_delayOf 80 = .ok (.ifCond .ne 8, 3) := by decide +kernel
theorem dX11_delayOf_83 : decode cX11_delayOf 83 = .ok (.iload 4, 2) := by decide +kernel
theorem dX11_delayOf_85 : decode cX11_delayOf 85 = .ok (.goto 5, 3) := by decide +kernel
theorem dX11_delayOf_88 : decode cX11_delayOf 88 = .ok (.iload 5, 2) := by decide +kernel
theorem dX11_delayOf_90 : decode cX11_delayOf 90 = .ok (.ireturn, 1) := by decide +kernel
theorem dX11_delay_0 : decode cX11_delay 0 = .ok (.aload_n 0, 1) := by decide +kernel
theorem dX11_delay_1 : decode cX11_delay 1 = .ok (.invokevirtual 218, 3) := by decide +kernel
theorem dX11_delay_4 : decode cX11_delay 4 = .ok (.aload_n 0, 1) := by decide +kernel
theorem dX11_delay_5 : decode cX11_delay 5 = .ok (.iload_n 1, 1) := by decide +kernel
theorem dX11_delay_6 : decode cX11_delay 6 = .ok (.invokevirtual 153, 3) := by decide +kernel
theorem dX11_delay_9 : decode cX11_delay 9 = .ok (.ifCond .eq 19, 3) := by decide +kernel
theorem dX11_delay_12 : decode cX11_delay 12 = .ok (.iload_n 2, 1) := by decide +kernel
theorem dX11_delay_13 : decode cX11_delay 13 = .ok (.invokestatic 110, 3) := by decide +kernel
theorem dX11_delay_16 : decode cX11_delay 16 = .ok (.ifCond .eq 12, 3) := by decide +kernel
theorem dX11_delay_19 : decode cX11_delay 19 = .ok (.aload_n 0, 1) := by decide +kernel
theorem dX11_delay_20 : decode cX11_delay 20 = .ok (.iload_n 1, 1) := by decide +kernel
theorem dX11_delay_21 : decode cX11_delay 21 = .ok (.iload_n 2, 1) := by decide +kernel
theorem dX11_delay_22 : decode cX11_delay 22 = .ok (.invokevirtual 250, 3) := by decide +kernel
theorem dX11_delay_25 : decode cX11_delay 25 = .ok (.goto 5, 3) := by decide +kernel
theorem dX11_delay_28 : decode cX11_delay 28 = .ok (.bipush (-2), 2) := by decide +kernel
theorem dX11_delay_30 : decode cX11_delay 30 = .ok (.ireturn, 1) := by decide +kernel
theorem dX11_levelBy_0 : decode cX11_levelBy 0 = .ok (.iconst (-1), 1) := by decide +kernel
theorem dX11_levelBy_1 : decode cX11_levelBy 1 = .ok (.istore_n 2, 1) := by decide +kernel
theorem dX11_levelBy_2 : decode cX11_levelBy 2 = .ok (.iconst (-1), 1) := by decide +kernel
theorem dX11_levelBy_3 : decode cX11_levelBy 3 = .ok (.istore_n 3, 1) := by decide +kernel
theorem dX11_levelBy_4 : decode cX11_levelBy 4 = .ok (.iconst 0, 1) := by decide +kernel
theorem dX11_levelBy_5 : decode cX11_levelBy 5 = .ok (.istore 4, 2) := by decide +kernel
theorem dX11_levelBy_7 : decode cX11_levelBy 7 = .ok (.iload 4, 2) := by decide +kernel
theorem dX11_levelBy_9 : decode cX11_levelBy 9 = .ok (.aload_n 0, 1) := by decide +kernel
theorem dX11_levelBy_10 : decode cX11_levelBy 10 = .ok (.getfield 127, 3) := by decide +kernel
theorem dX11_levelBy_13 : decode cX11_levelBy 13 = .ok (.if_icmp .ge 81, 3) := by decide +kernel
theorem dX11_levelBy_16 : decode cX11_levelBy 16 = .ok (.aload_n 0, 1) := by decide +kernel
theorem dX11_levelBy_17 : decode cX11_levelBy 17 = .ok (.getfield 28, 3) := by decide +kernel
theorem dX11_levelBy_20 : decode cX11_levelBy 20 = .ok (.iconst 4, 1) := by decide +kernel
theorem dX11_levelBy_21 : decode cX11_levelBy 21 = .ok (.iload 4, 2) := by decide +kernel
theorem dX11_levelBy_23 : decode cX11_levelBy 23 = .ok (.imul, 1) := by decide +kernel
theorem dX11_levelBy_24 : decode cX11_levelBy 24 = .ok (.iconst 3, 1) := by decide +kernel
theorem dX11_levelBy_25 : decode cX11_levelBy 25 = .ok (.iadd, 1) := by decide +kernel
theorem dX11_levelBy_26 : decode cX11_levelBy 26 = .ok (.iaload, 1) := by decide +kernel
theorem dX11_levelBy_27 : decode cX11_levelBy 27 = .ok (.istore 5, 2) := by decide +kernel
theorem dX11_levelBy_29 : decode cX11_levelBy 29 = .ok (.aload_n 0, 1) := by decide +kernel
theorem dX11_levelBy_30 : decode cX11_levelBy 30 = .ok (.getfield 28, 3) := by decide +kernel
theorem dX11_levelBy_33 : decode cX11_levelBy 33 = .ok (.iconst 4, 1) := by decide +kernel
theorem dX11_levelBy_34 : decode cX11_levelBy 34 = .ok (.iload 4, 2) := by decide +kernel
theorem dX11_levelBy_36 : decode cX11_levelBy 36 = .ok (.imul, 1) := by decide +kernel
end
section
theorem dX11_levelBy_37 : decode cX11_levelBy 37 = .ok (.iconst 3, 1) := by decide +kernel
theorem dX11_levelBy_38 : decode cX11_levelBy 38 = .ok (.iadd, 1) := by decide +kernel
theorem dX11_levelBy_39 : decode cX11_levelBy 39 = .ok (.iconst 1, 1) := by decide +kernel
theorem dX11_levelBy_40 : decode cX11_levelBy 40 = .ok (.iastore, 1) := by decide +kernel
theorem dX11_levelBy_41 : decode cX11_levelBy 41 = .ok (.aload_n 0, 1) := by decide +kernel
theorem dX11_levelBy_42 : decode cX11_levelBy 42 = .ok (.invokevirtual 212, 3) := by decide +kernel
theorem dX11_levelBy_45 : decode cX11_levelBy 45 = .ok (.aload_n 0, 1) := by decide +kernel
theorem dX11_levelBy_46 : decode cX11_levelBy 46 = .ok (.invokevirtual 215, 3) := by decide +kernel
theorem dX11_levelBy_49 : decode cX11_levelBy 49 = .ok (.aload_n 0, 1) := by decide +kernel
theorem dX11_levelBy_50 : decode cX11_levelBy 50 = .ok (.invokevirtual 244, 3) := by decide +kernel
theorem dX11_levelBy_53 : decode cX11_levelBy 53 = .ok (.istore 6, 2) := by decide +kernel
theorem dX11_levelBy_55 : decode cX11_levelBy 55 = .ok (.iload 6, 2) := by decide +kernel
theorem dX11_levelBy_57 : decode cX11_levelBy 57 = .ok (.iload_n 3, 1) := by decide +kernel
theorem dX11_levelBy_58 : decode cX11_levelBy 58 = .ok (.if_icmp .le 8, 3) := by decide +kernel
theorem dX11_levelBy_61 : decode cX11_levelBy 61 = .ok (.iload 4, 2) := by decide +kernel
theorem dX11_levelBy_63 : decode cX11_levelBy 63 = .ok (.goto 4, 3) := by decide +kernel
theorem dX11_levelBy_66 : decode cX11_levelBy 66 = .ok (.iload_n 2, 1) := by decide +kernel
theorem dX11_levelBy_67 : decode cX11_levelBy 67 = .ok (.istore_n 2, 1) := by decide +kernel
theorem dX11_levelBy_68 : decode cX11_levelBy 68 = .ok (.iload 6, 2) := by decide +kernel
theorem dX11_levelBy_70 : decode cX11_levelBy 70 = .ok (.iload_n 3, 1) := by decide +kernel
theorem dX11_levelBy_71 : decode cX11_levelBy 71 = .ok (.invokestatic 229, 3) := by decide +kernel
theorem dX11_levelBy_74 : decode cX11_levelBy 74 = .ok (.istore_n 3, 1) := by decide +kernel
theorem dX11_levelBy_75 : decode cX11_levelBy 75 = .ok (.aload_n 0, 1) := by decide +kernel
theorem dX11_levelBy_76 : decode cX11_levelBy 76 = .ok (.getfield 28, 3) := by decide +kernel
theorem dX11_levelBy_79 : decode cX11_levelBy 79 = .ok (.iconst 4, 1) := by decide +kernel
theorem dX11_levelBy_80 : decode cX11_levelBy 80 = .ok (.iload 4, 2) := by decide +kernel
theorem dX11_levelBy_82 : decode cX11_levelBy 82 = .ok (.imul, 1) := by decide +kernel
theorem dX11_levelBy_83 : decode cX11_levelBy 83 = .ok (.iconst 3, 1) := by decide +kernel
theorem dX11_levelBy_84 : decode cX11_levelBy 84 = .ok (.iadd, 1) := by decide +kernel
theorem dX11_levelBy_85 : decode cX11_levelBy 85 = .ok (.iload 5, 2) := by decide +kernel
theorem dX11_levelBy_87 : decode cX11_levelBy 87 = .ok (.iastore, 1) := by decide +kernel
theorem dX11_levelBy_88 : decode cX11_levelBy 88 = .ok (.iinc 4 1, 3) := by decide +kernel
theorem dX11_levelBy_91 : decode cX11_levelBy 91 = .ok (.goto (-84), 3) := by decide +kernel
theorem dX11_levelBy_94 : decode cX11_levelBy 94 = .ok (.aload_n 0, 1) := by decide +kernel
theorem dX11_levelBy_95 : decode cX11_levelBy 95 = .ok (.invokevirtual 212, 3) := by decide +kernel
theorem dX11_levelBy_98 : decode cX11_levelBy 98 = .ok (.iload_n 1, 1) := by decide +kernel
theorem dX11_levelBy_99 : decode cX11_levelBy 99 = .ok (.ifCond .ne 7, 3) := by decide +kernel
theorem dX11_levelBy_102 : decode cX11_levelBy 102 = .ok (.iload_n 2, 1) := by decide +kernel
theorem dX11_levelBy_103 : decode cX11_levelBy 103 = .ok (.goto 4, 3) := by decide +kernel
theorem dX11_levelBy_106 : decode cX11_levelBy 106 = .ok (.iload_n 3, 1) := by decide +kernel
theorem dX11_levelBy_107 : decode cX11_levelBy 107 = .ok (.ireturn, 1) := by decide +kernel
theorem dX11_level_0 : decode cX11_level 0 = .ok (.aload_n 0, 1) := by decide +kernel
theorem dX11_level_1 : decode cX11_level 1 = .ok (.invokevirtual 218, 3) := by decide +kernel
theorem dX11_level_4 : decode cX11_level 4 = .ok (.iload_n 1, 1) := by decide +kernel
theorem dX11_level_5 : decode cX11_level 5 = .ok (.invokestatic 110, 3) := by decide +kernel
theorem dX11_level_8 : decode cX11_level 8 = .ok (.ifCond .eq 11, 3) := by decide +kernel
theorem dX11_level_11 : decode cX11_level 11 = .ok (.aload_n 0, 1) := by decide +kernel
theorem dX11_level_12 : decode cX11_level 12 = .ok (.iload_n 1, 1) := by decide +kernel
theorem dX11_level_13 : decode cX11_level 13 = .ok (.invokevirtual 253, 3) := by decide +kernel
theorem dX11_level_16 : decode cX11_level 16 = .ok (.goto 5, 3) := by decide +kernel
theorem dX11_level_19 : decode cX11_level 19 = .ok (.bipush (-2), 2) := by decide +kernel
theorem dX11_level_21 : decode cX11_level 21 = .ok (.ireturn, 1) := by decide +kernel
theorem dX11_seen_0 : decode cX11_seen 0 = .ok (.iload_n 1, 1) := by decide +kernel
theorem dX11_seen_1 : decode cX11_seen 1 = .ok (.invokestatic 160, 3) := by decide +kernel
theorem dX11_seen_4 : decode cX11_seen 4 = .ok (.ifCond .eq 27, 3) := by decide +kernel
theorem dX11_seen_7 : decode cX11_seen 7 = .ok (.iload_n 2, 1) := by decide +kernel
theorem dX11_seen_8 : decode cX11_seen 8 = .ok (.i2l, 1) := by decide +kernel
theorem dX11_seen_9 : decode cX11_seen 9 = .ok (.lconst 0, 1) := by decide +kernel
theorem dX11_seen_10 : decode cX11_seen 10 = .ok (.ldc2_w 151, 3) := by decide +kernel
theorem dX11_seen_13 : decode cX11_seen 13 = .ok (.invokestatic 81, 3) := by decide +kernel
theorem dX11_seen_16 : decode cX11_seen 16 = .ok (.ifCond .eq 15, 3) := by decide +kernel
theorem dX11_seen_19 : decode cX11_seen 19 = .ok (.iload_n 3, 1) := by decide +kernel
theorem dX11_seen_20 : decode cX11_seen 20 = .ok (.i2l, 1) := by decide +kernel
theorem dX11_seen_21 : decode cX11_seen 21 = .ok (.lconst 0, 1) := by decide +kernel
theorem dX11_seen_22 : decode cX11_seen 22 = .ok (.ldc2_w 256, 3) := by decide +kernel
theorem dX11_seen_25 : decode cX11_seen 25 = .ok (.invokestatic 81, 3) := by decide +kernel
theorem dX11_seen_28 : decode cX11_seen 28 = .ok (.ifCond .ne 6, 3) := by decide +kernel
theorem dX11_seen_31 : decode cX11_seen 31 = .ok (.bipush (-2), 2) := by decide +kernel
theorem dX11_seen_33 : decode cX11_seen 33 = .ok (.ireturn, 1) := by decide +kernel
theorem dX11_seen_34 : decode cX11_seen 34 = .ok (.aload_n 0, 1) := by decide +kernel
theorem dX11_seen_35 : decode cX11_seen 35 = .ok (.getfield 258, 3) := by decide +kernel
theorem dX11_seen_38 : decode cX11_seen 38 = .ok (.bipush 8, 2) := by decide +kernel
theorem dX11_seen_40 : decode cX11_seen 40 = .ok (.if_icmp .ne 6, 3) := by decide +kernel
theorem dX11_seen_43 : decode cX11_seen 43 = .ok (.bipush (-4), 2) := by decide +kernel
theorem dX11_seen_45 : decode cX11_seen 45 = .ok (.ireturn, 1) := by decide +kernel
theorem dX11_seen_46 : decode cX11_seen 46 = .ok (.aload_n 0, 1) := by decide +kernel
theorem dX11_seen_47 : decode cX11_seen 47 = .ok (.getfield 73, 3) := by decide +kernel
theorem dX11_seen_50 : decode cX11_seen 50 = .ok (.iconst 3, 1) := by decide +kernel
theorem dX11_seen_51 : decode cX11_seen 51 = .ok (.aload_n 0, 1) := by decide +kernel
theorem dX11_seen_52 : decode cX11_seen 52 = .ok (.getfield 258, 3) := by decide +kernel
theorem dX11_seen_55 : decode cX11_seen 55 = .ok (.imul, 1) := by decide +kernel
theorem dX11_seen_56 : decode cX11_seen 56 = .ok (.iload_n 1, 1) := by decide +kernel
theorem dX11_seen_57 : decode cX11_seen 57 = .ok (.iastore, 1) := by decide +kernel
theorem dX11_seen_58 : decode cX11_seen 58 = .ok (.aload_n 0, 1) := by decide +kernel
theorem dX11_seen_59 : decode cX11_seen 59 = .ok (.getfield 73, 3) := by decide +kernel
theorem dX11_seen_62 : decode cX11_seen 62 = .ok (.iconst 3, 1) := by decide +kernel
theorem dX11_seen_63 : decode cX11_seen 63 = .ok (.aload_n 0, 1) := by decide +kernel
theorem dX11_seen_64 : decode cX11_seen 64 = .ok (.getfield 258, 3) := by decide +kernel
theorem dX11_seen_67 : decode cX11_seen 67 = .ok (.imul, 1) := by decide +kernel
theorem dX11_seen_68 : decode cX11_seen 68 = .ok (.iconst 1, 1) := by decide +kernel
theorem dX11_seen_69 : decode cX11_seen 69 = .ok (.iadd, 1) := by decide +kernel
theorem dX11_seen_70 : decode cX11_seen 70 = .ok (.iload_n 2, 1) := by decide +kernel
theorem dX11_seen_71 : decode cX11_seen 71 = .ok (.iastore, 1) := by decide +kernel
theorem dX11_seen_72 : decode cX11_seen 72 = .ok (.aload_n 0, 1) := by decide +kernel
theorem dX11_seen_73 : decode cX11_seen 73 = .ok (.getfield 73, 3) := by decide +kernel
theorem dX11_seen_76 : decode cX11_seen 76 = .ok (.iconst 3, 1) := by decide +kernel
theorem dX11_seen_77 : decode cX11_seen 77 = .ok (.aload_n 0, 1) := by decide +kernel
theorem dX11_seen_78 : decode cX11_seen 78 = .ok (.getfield 258, 3) := by decide +kernel
theorem dX11_seen_81 : decode cX11_seen 81 = .ok (.imul, 1) := by decide +kernel
theorem dX11_seen_82 : decode cX11_seen 82 = .ok (.iconst 2, 1) := by decide +kernel
theorem dX11_seen_83 : decode cX11_seen 83 = .ok (.iadd, 1) := by decide +kernel
theorem dX11_seen_84 : decode cX11_seen 84 = .ok (.iload_n 3, 1) := by decide +kernel
theorem dX11_seen_85 : decode cX11_seen 85 = .ok (.iastore, 1) := by decide +kernel
theorem dX11_seen_86 : decode cX11_seen 86 = .ok (.aload_n 0, 1) := by decide +kernel
theorem dX11_seen_87 : decode cX11_seen 87 = .ok (.dup, 1) := by decide +kernel
theorem dX11_seen_88 : decode cX11_seen 88 = .ok (.getfield 258, 3) := by decide +kernel
theorem dX11_seen_91 : decode cX11_seen 91 = .ok (.iconst 1, 1) := by decide +kernel
theorem dX11_seen_92 : decode cX11_seen 92 = .ok (.iadd, 1) := by decide +kernel
theorem dX11_seen_93 : decode cX11_seen 93 = .ok (.putfield 258, 3) := by decide +kernel
theorem dX11_seen_96 : decode cX11_seen 96 = .ok (.aload_n 0, 1) := by decide +kernel
theorem dX11_seen_97 : decode cX11_seen 97 = .ok (.getfield 258, 3) := by decide +kernel
theorem dX11_seen_100 : decode cX11_seen 100 = .ok (.ireturn, 1) := by decide +kernel
theorem dX11_forget_0 : decode cX11_forget 0 = .ok (.aload_n 0, 1) := by decide +kernel
theorem dX11_forget_1 : decode cX11_forget 1 = .ok (.getfield 258, 3) := by decide +kernel
theorem dX11_forget_4 : decode cX11_forget 4 = .ok (.istore_n 1, 1) := by decide +kernel
theorem dX11_forget_5 : decode cX11_forget 5 = .ok (.aload_n 0, 1) := by decide +kernel
theorem dX11_forget_6 : decode cX11_forget 6 = .ok (.iconst 0, 1) := by decide +kernel
theorem dX11_forget_7 : decode cX11_forget 7 = .ok (.putfield 258, 3) := by decide +kernel
theorem dX11_forget_10 : decode cX11_forget 10 = .ok (.iload_n 1, 1) := by decide +kernel
theorem dX11_forget_11 : decode cX11_forget 11 = .ok (.ireturn, 1) := by decide +kernel
theorem dX11_isSeen_0 : decode cX11_isSeen 0 = .ok (.aload_n 0, 1) := by decide +kernel
theorem dX11_isSeen_1 : decode cX11_isSeen 1 = .ok (.invokevirtual 215, 3) := by decide +kernel
theorem dX11_isSeen_4 : decode cX11_isSeen 4 = .ok (.iconst 1, 1) := by decide +kernel
theorem dX11_isSeen_5 : decode cX11_isSeen 5 = .ok (.istore_n 1, 1) := by decide +kernel
theorem dX11_isSeen_6 : decode cX11_isSeen 6 = .ok (.iconst 0, 1) := by decide +kernel
theorem dX11_isSeen_7 : decode cX11_isSeen 7 = .ok (.istore_n 2, 1) := by decide +kernel
theorem dX11_isSeen_8 : decode cX11_isSeen 8 = .ok (.iload_n 2, 1) := by decide +kernel
theorem dX11_isSeen_9 : decode cX11_isSeen 9 = .ok (.aload_n 0, 1) := by decide +kernel
theorem dX11_isSeen_10 : decode cX11_isSeen 10 = .ok (.getfield 258, 3) := by decide +kernel
theorem dX11_isSeen_13 : decode cX11_isSeen 13 = .ok (.if_icmp .ge 92, 3) := by decide +kernel
theorem dX11_isSeen_16 : decode cX11_isSeen 16 = .ok (.iload_n 1, 1) := by decide +kernel
theorem dX11_isSeen_17 : decode cX11_isSeen 17 = .ok (.ifCond .eq 88, 3) := by decide +kernel
theorem dX11_isSeen_20 : decode cX11_isSeen 20 = .ok (.aload_n 0, 1) := by decide +kernel
theorem dX11_isSeen_21 : decode cX11_isSeen 21 = .ok (.getfield 73, 3) := by decide +kernel
theorem dX11_isSeen_24 : decode cX11_isSeen 24 = .ok (.iconst 3, 1) := by decide +kernel
theorem dX11_isSeen_25 : decode cX11_isSeen 25 = .ok (.iload_n 2, 1) := by decide +kernel
theorem dX11_isSeen_26 : decode cX11_isSeen 26 = .ok (.imul, 1) := by decide +kernel
theorem dX11_isSeen_27 : decode cX11_isSeen 27 = .ok (.iconst 1, 1) := by decide +kernel
theorem dX11_isSeen_28 : decode cX11_isSeen 28 = .ok (.iadd, 1) := by decide +kernel
theorem dX11_isSeen_29 : decode cX11_isSeen 29 = .ok (.iaload, 1) := by decide +kernel
theorem dX11_isSeen_30 : decode cX11_isSeen 30 = .ok (.istore_n 3, 1) := by decide +kernel
theorem dX11_isSeen_31 : decode cX11_isSeen 31 = .ok (.aload_n 0, 1) := by decide +kernel
theorem dX11_isSeen_32 : decode cX11_isSeen 32 = .ok (.iload_n 3, 1) := by decide +kernel
theorem dX11_isSeen_33 : decode cX11_isSeen 33 = .ok (.invokevirtual 153, 3) := by decide +kernel
theorem dX11_isSeen_36 : decode cX11_isSeen 36 = .ok (.ifCond .eq 61, 3) := by decide +kernel
theorem dX11_isSeen_39 : decode cX11_isSeen 39 = .ok (.aload_n 0, 1) := by decide +kernel
theorem dX11_isSeen_40 : decode cX11_isSeen 40 = .ok (.getfield 64, 3) := by decide +kernel
theorem dX11_isSeen_43 : decode cX11_isSeen 43 = .ok (.bipush 32, 2) := by decide +kernel
theorem dX11_isSeen_45 : decode cX11_isSeen 45 = .ok (.aload_n 0, 1) := by decide +kernel
theorem dX11_isSeen_46 : decode cX11_isSeen 46 = .ok (.getfield 73, 3) := by decide +kernel
theorem dX11_isSeen_49 : decode cX11_isSeen 49 = .ok (.iconst 3, 1) := by decide +kernel
theorem dX11_isSeen_50 : decode cX11_isSeen 50 = .ok (.iload_n 2, 1) := by decide +kernel
theorem dX11_isSeen_51 : decode cX11_isSeen 51 = .ok (.imul, 1) := by decide +kernel
theorem dX11_isSeen_52 : decode cX11_isSeen 52 = .ok (.iaload, 1) := by decide +kernel
theorem dX11_isSeen_53 : decode cX11_isSeen 53 = .ok (.imul, 1) := by decide +kernel
theorem dX11_isSeen_54 : decode cX11_isSeen 54 = .ok (.iconst 4, 1) := by decide +kernel
theorem dX11_isSeen_55 : decode cX11_isSeen 55 = .ok (.iload_n 3, 1) := by decide +kernel
theorem dX11_isSeen_56 : decode cX11_isSeen 56 = .ok (.imul, 1) := by decide +kernel
theorem dX11_isSeen_57 : decode cX11_isSeen 57 = .ok (.iadd, 1) := by decide +kernel
theorem dX11_isSeen_58 : decode cX11_isSeen 58 = .ok (.iconst 1, 1) := by decide +kernel
theorem dX11_isSeen_59 : decode cX11_isSeen 59 = .ok (.iadd, 1) := by decide +kernel
theorem dX11_isSeen_60 : decode cX11_isSeen 60 = .ok (.iaload, 1) := by decide +kernel
theorem dX11_isSeen_61 : decode cX11_isSeen 61 = .ok (.aload_n 0, 1) := by decide +kernel
theorem dX11_isSeen_62 : decode cX11_isSeen 62 = .ok (.getfield 73, 3) := by decide +kernel
theorem dX11_isSeen_65 : decode cX11_isSeen 65 = .ok (.iconst 3, 1) := by decide +kernel
theorem dX11_isSeen_66 : decode cX11_isSeen 66 = .ok (.iload_n 2, 1) := by decide +kernel
theorem dX11_isSeen_67 : decode cX11_isSeen 67 = .ok (.imul, 1) := by decide +kernel
theorem dX11_isSeen_68 : decode cX11_isSeen 68 = .ok (.iconst 2, 1) := by decide +kernel
theorem dX11_isSeen_69 : decode cX11_isSeen 69 = .ok (.iadd, 1) := by decide +kernel
theorem dX11_isSeen_70 : decode cX11_isSeen 70 = .ok (.iaload, 1) := by decide +kernel
theorem dX11_isSeen_71 : decode cX11_isSeen 71 = .ok (.bipush 8, 2) := by decide +kernel
theorem dX11_isSeen_73 : decode cX11_isSeen 73 = .ok (.if_icmp .ne 7, 3) := by decide +kernel
theorem dX11_isSeen_76 : decode cX11_isSeen 76 = .ok (.iconst (-1), 1) := by decide +kernel
theorem dX11_isSeen_77 : decode cX11_isSeen 77 = .ok (.goto 13, 3) := by decide +kernel
theorem dX11_isSeen_80 : decode cX11_isSeen 80 = .ok (.aload_n 0, 1) := by decide +kernel
theorem dX11_isSeen_81 : decode cX11_isSeen 81 = .ok (.getfield 73, 3) := by decide +kernel
theorem dX11_isSeen_84 : decode cX11_isSeen 84 = .ok (.iconst 3, 1) := by decide +kernel
theorem dX11_isSeen_85 : decode cX11_isSeen 85 = .ok (.iload_n 2, 1) := by decide +kernel
theorem dX11_isSeen_86 : decode cX11_isSeen 86 = .ok (.imul, 1) := by decide +kernel
theorem dX11_isSeen_87 : decode cX11_isSeen 87 = .ok (.iconst 2, 1) := by decide +kernel
theorem dX11_isSeen_88 : decode cX11_isSeen 88 = .ok (.iadd, 1) := by decide +kernel
theorem dX11_isSeen_89 : decode cX11_isSeen 89 = .ok (.iaload, 1) := by decide +kernel
theorem dX11_isSeen_90 : decode cX11_isSeen 90 = .ok (.if_icmp .ne 7, 3) := by decide +kernel
theorem dX11_isSeen_93 : decode cX11_isSeen 93 = .ok (.iconst 1, 1) := by decide +kernel
theorem dX11_isSeen_94 : decode cX11_isSeen 94 = .ok (.goto 4, 3) := by decide +kernel
theorem dX11_isSeen_97 : decode cX11_isSeen 97 = .ok (.iconst 0, 1) := by decide +kernel
theorem dX11_isSeen_98 : decode cX11_isSeen 98 = .ok (.istore_n 1, 1) := by decide +kernel
theorem dX11_isSeen_99 : decode cX11_isSeen 99 = .ok (.iinc 2 1, 3) := by decide +kernel
theorem dX11_isSeen_102 : decode cX11_isSeen 102 = .ok (.goto (-94), 3) := by decide +kernel
theorem dX11_isSeen_105 : decode cX11_isSeen 105 = .ok (.iload_n 1, 1) := by decide +kernel
theorem dX11_isSeen_106 : decode cX11_isSeen 106 = .ok (.ireturn, 1) := by decide +kernel
theorem dX11_neverNow_0 : decode cX11_neverNow 0 = .ok (.iconst 0, 1) := by decide +kernel
theorem dX11_neverNow_1 : decode cX11_neverNow 1 = .ok (.istore_n 1, 1) := by decide +kernel
theorem dX11_neverNow_2 : decode cX11_neverNow 2 = .ok (.iconst 0, 1) := by decide +kernel
theorem dX11_neverNow_3 : decode cX11_neverNow 3 = .ok (.istore_n 2, 1) := by decide +kernel
theorem dX11_neverNow_4 : decode cX11_neverNow 4 = .ok (.iload_n 2, 1) := by decide +kernel
theorem dX11_neverNow_5 : decode cX11_neverNow 5 = .ok (.aload_n 0, 1) := by decide +kernel
theorem dX11_neverNow_6 : decode cX11_neverNow 6 = .ok (.getfield 166, 3) := by decide +kernel
theorem dX11_neverNow_9 : decode cX11_neverNow 9 = .ok (.if_icmp .ge 33, 3) := by decide +kernel
theorem dX11_neverNow_12 : decode cX11_neverNow 12 = .ok (.aload_n 0, 1) := by decide +kernel
theorem dX11_neverNow_13 : decode cX11_neverNow 13 = .ok (.iconst 1, 1) := by decide +kernel
theorem dX11_neverNow_14 : decode cX11_neverNow 14 = .ok (.iload_n 2, 1) := by decide +kernel
theorem dX11_neverNow_15 : decode cX11_neverNow 15 = .ok (.ishl, 1) := by decide +kernel
theorem dX11_neverNow_16 : decode cX11_neverNow 16 = .ok (.putfield 174, 3) := by decide +kernel
theorem dX11_neverNow_19 : decode cX11_neverNow 19 = .ok (.iload_n 1, 1) := by decide +kernel
theorem dX11_neverNow_20 : decode cX11_neverNow 20 = .ok (.aload_n 0, 1) := by decide +kernel
theorem dX11_neverNow_21 : decode cX11_neverNow 21 = .ok (.invokevirtual 261, 3) := by decide +kernel
theorem dX11_neverNow_24 : decode cX11_neverNow 24 = .ok (.ifCond .eq 9, 3) := by decide +kernel
theorem dX11_neverNow_27 : decode cX11_neverNow 27 = .ok (.iconst 1, 1) := by decide +kernel
theorem dX11_neverNow_28 : decode cX11_neverNow 28 = .ok (.iload_n 2, 1) := by decide +kernel
theorem dX11_neverNow_29 : decode cX11_neverNow 29 = .ok (.ishl, 1) := by decide +kernel
theorem dX11_neverNow_30 : decode cX11_neverNow 30 = .ok (.goto 4, 3) := by decide +kernel
theorem dX11_neverNow_33 : decode cX11_neverNow 33 = .ok (.iconst 0, 1) := by decide +kernel
theorem dX11_neverNow_34 : decode cX11_neverNow 34 = .ok (.ior, 1) := by decide +kernel
theorem dX11_neverNow_35 : decode cX11_neverNow 35 = .ok (.istore_n 1, 1) := by decide +kernel
theorem dX11_neverNow_36 : decode cX11_neverNow 36 = .ok (.iinc 2 1, 3) := by decide +kernel
theorem dX11_neverNow_39 : decode cX11_neverNow 39 = .ok (.goto (-35), 3) := by decide +kernel
theorem dX11_neverNow_42 : decode cX11_neverNow 42 = .ok (.aload_n 0, 1) := by decide +kernel
theorem dX11_neverNow_43 : decode cX11_neverNow 43 = .ok (.iconst 0, 1) := by decide +kernel
theorem dX11_neverNow_44 : decode cX11_neverNow 44 = .ok (.putfield 174, 3) := by decide +kernel
theorem dX11_neverNow_47 : decode cX11_neverNow 47 = .ok (.iload_n 1, 1) := by decide +kernel
theorem dX11_neverNow_48 : decode cX11_neverNow 48 = .ok (.ireturn, 1) := by decide +kernel
theorem dX11_never_0 : decode cX11_never 0 = .ok (.aload_n 0, 1) := by decide +kernel
theorem dX11_never_1 : decode cX11_never 1 = .ok (.invokevirtual 218, 3) := by decide +kernel
theorem dX11_never_4 : decode cX11_never 4 = .ok (.aload_n 0, 1) := by decide +kernel
theorem dX11_never_5 : decode cX11_never 5 = .ok (.invokevirtual 265, 3) := by decide +kernel
theorem dX11_never_8 : decode cX11_never 8 = .ok (.ireturn, 1) := by decide +kernel
theorem dX11_sortOf_0 : decode cX11_sortOf 0 = .ok (.aload_n 0, 1) := by decide +kernel
theorem dX11_sortOf_1 : decode cX11_sortOf 1 = .ok (.getfield 31, 3) := by decide +kernel
theorem dX11_sortOf_4 : decode cX11_sortOf 4 = .ok (.iconst 5, 1) := by decide +kernel
theorem dX11_sortOf_5 : decode cX11_sortOf 5 = .ok (.iload_n 1, 1) := by decide +kernel
theorem dX11_sortOf_6 : decode cX11_sortOf 6 = .ok (.imul, 1) := by decide +kernel
theorem dX11_sortOf_7 : decode cX11_sortOf 7 = .ok (.iconst 2, 1) := by decide +kernel
theorem dX11_sortOf_8 : decode cX11_sortOf 8 = .ok (.iadd, 1) := by decide +kernel
theorem dX11_sortOf_9 : decode cX11_sortOf 9 = .ok (.iaload, 1) := by decide +kernel
theorem dX11_sortOf_10 : decode cX11_sortOf 10 = .ok (.istore_n 2, 1) := by decide +kernel
theorem dX11_sortOf_11 : decode cX11_sortOf 11 = .ok (.iconst 0, 1) := by decide +kernel
theorem dX11_sortOf_12 : decode cX11_sortOf 12 = .ok (.istore_n 3, 1) := by decide +kernel
theorem dX11_sortOf_13 : decode cX11_sortOf 13 = .ok (.iconst 0, 1) := by decide +kernel
theorem dX11_sortOf_14 : decode cX11_sortOf 14 = .ok (.istore 4, 2) := by decide +kernel
theorem dX11_sortOf_16 : decode cX11_sortOf 16 = .ok (.iload 4, 2) := by decide +kernel
theorem dX11_sortOf_18 : decode cX11_sortOf 18 = .ok (.iconst 3, 1) := by decide +kernel
theorem dX11_sortOf_19 : decode cX11_sortOf 19 = .ok (.if_icmp .ge 84, 3) := by decide +kernel
theorem dX11_sortOf_22 : decode cX11_sortOf 22 = .ok (.aload_n 0, 1) := by decide +kernel
theorem dX11_sortOf_23 : decode cX11_sortOf 23 = .ok (.getfield 31, 3) := by decide +kernel
theorem dX11_sortOf_26 : decode cX11_sortOf 26 = .ok (.iconst 5, 1) := by decide +kernel
theorem dX11_sortOf_27 : decode cX11_sortOf 27 = .ok (.iload_n 1, 1) := by decide +kernel
theorem dX11_sortOf_28 : decode cX11_sortOf 28 = .ok (.imul, 1) := by decide +kernel
theorem dX11_sortOf_29 : decode cX11_sortOf 29 = .ok (.iconst 2, 1) := by decide +kernel
theorem dX11_sortOf_30 : decode cX11_sortOf 30 = .ok (.iadd, 1) := by decide +kernel
theorem dX11_sortOf_31 : decode cX11_sortOf 31 = .ok (.iload 4, 2) := by decide +kernel
theorem dX11_sortOf_33 : decode cX11_sortOf 33 = .ok (.iastore, 1) := by decide +kernel
theorem dX11_sortOf_34 : decode cX11_sortOf 34 = .ok (.iload_n 3, 1) := by decide +kernel
theorem dX11_sortOf_35 : decode cX11_sortOf 35 = .ok (.aload_n 0, 1) := by decide +kernel
theorem dX11_sortOf_36 : decode cX11_sortOf 36 = .ok (.invokevirtual 261, 3) := by decide +kernel
theorem dX11_sortOf_39 : decode cX11_sortOf 39 = .ok (.ifCond .eq 10, 3) := by decide +kernel
theorem dX11_sortOf_42 : decode cX11_sortOf 42 = .ok (.iconst 1, 1) := by decide +kernel
theorem dX11_sortOf_43 : decode cX11_sortOf 43 = .ok (.iload 4, 2) := by decide +kernel
theorem dX11_sortOf_45 : decode cX11_sortOf 45 = .ok (.ishl, 1) := by decide +kernel
theorem dX11_sortOf_46 : decode cX11_sortOf 46 = .ok (.goto 4, 3) := by decide +kernel
theorem dX11_sortOf_49 : decode cX11_sortOf 49 = .ok (.iconst 0, 1) := by decide +kernel
theorem dX11_sortOf_50 : decode cX11_sortOf 50 = .ok (.ior, 1) := by decide +kernel
theorem dX11_sortOf_51 : decode cX11_sortOf 51 = .ok (.istore_n 3, 1) := by decide +kernel
theorem dX11_sortOf_52 : decode cX11_sortOf 52 = .ok (.iconst 0, 1) := by decide +kernel
theorem dX11_sortOf_53 : decode cX11_sortOf 53 = .ok (.istore 5, 2) := by decide +kernel
theorem dX11_sortOf_55 : decode cX11_sortOf 55 = .ok (.iload 5, 2) := by decide +kernel
theorem dX11_sortOf_57 : decode cX11_sortOf 57 = .ok (.bipush 40, 2) := by decide +kernel
theorem dX11_sortOf_59 : decode cX11_sortOf 59 = .ok (.if_icmp .ge 38, 3) := by decide +kernel
theorem dX11_sortOf_62 : decode cX11_sortOf 62 = .ok (.aload_n 0, 1) := by decide +kernel
theorem dX11_sortOf_63 : decode cX11_sortOf 63 = .ok (.getfield 76, 3) := by decide +kernel
theorem dX11_sortOf_66 : decode cX11_sortOf 66 = .ok (.bipush 40, 2) := by decide +kernel
theorem dX11_sortOf_68 : decode cX11_sortOf 68 = .ok (.iload 4, 2) := by decide +kernel
theorem dX11_sortOf_70 : decode cX11_sortOf 70 = .ok (.imul, 1) := by decide +kernel
theorem dX11_sortOf_71 : decode cX11_sortOf 71 = .ok (.iload 5, 2) := by decide +kernel
theorem dX11_sortOf_73 : decode cX11_sortOf 73 = .ok (.iadd, 1) := by decide +kernel
theorem dX11_sortOf_74 : decode cX11_sortOf 74 = .ok (.aload_n 0, 1) := by decide +kernel
theorem dX11_sortOf_75 : decode cX11_sortOf 75 = .ok (.getfield 64, 3) := by decide +kernel
theorem dX11_sortOf_78 : decode cX11_sortOf 78 = .ok (.bipush 32, 2) := by decide +kernel
theorem dX11_sortOf_80 : decode cX11_sortOf 80 = .ok (.iload 5, 2) := by decide +kernel
theorem dX11_sortOf_82 : decode cX11_sortOf 82 = .ok (.imul, 1) := by decide +kernel
theorem dX11_sortOf_83 : decode cX11_sortOf 83 = .ok (.iconst 4, 1) := by decide +kernel
theorem dX11_sortOf_84 : decode cX11_sortOf 84 = .ok (.iload_n 1, 1) := by decide +kernel
theorem dX11_sortOf_85 : decode cX11_sortOf 85 = .ok (.imul, 1) := by decide +kernel
theorem dX11_sortOf_86 : decode cX11_sortOf 86 = .ok (.iadd, 1) := by decide +kernel
theorem dX11_sortOf_87 : decode cX11_sortOf 87 = .ok (.iconst 1, 1) := by decide +kernel
theorem dX11_sortOf_88 : decode cX11_sortOf 88 = .ok (.iadd, 1) := by decide +kernel
theorem dX11_sortOf_89 : decode cX11_sortOf 89 = .ok (.iaload, 1) := by decide +kernel
theorem dX11_sortOf_90 : decode cX11_sortOf 90 = .ok (.iastore, 1) := by decide +kernel
theorem dX11_sortOf_91 : decode cX11_sortOf 91 = .ok (.iinc 5 1, 3) := by decide +kernel
theorem dX11_sortOf_94 : decode cX11_sortOf 94 = .ok (.goto (-39), 3) := by decide +kernel
theorem dX11_sortOf_97 : decode cX11_sortOf 97 = .ok (.iinc 4 1, 3) := by decide +kernel
theorem dX11_sortOf_100 : decode cX11_sortOf 100 = .ok (.goto (-84), 3) := by decide +kernel
theorem dX11_sortOf_103 : decode cX11_sortOf 103 = .ok (.aload_n 0, 1) := by decide +kernel
theorem dX11_sortOf_104 : decode cX11_sortOf 104 = .ok (.getfield 31, 3) := by decide +kernel
theorem dX11_sortOf_107 : decode cX11_sortOf 107 = .ok (.iconst 5, 1) := by decide +kernel
theorem dX11_sortOf_108 : decode cX11_sortOf 108 = .ok (.iload_n 1, 1) := by decide +kernel
theorem dX11_sortOf_109 : decode cX11_sortOf 109 = .ok (.imul, 1) := by decide +kernel
theorem dX11_sortOf_110 : decode cX11_sortOf 110 = .ok (.iconst 2, 1) := by decide +kernel
theorem dX11_sortOf_111 : decode cX11_sortOf 111 = .ok (.iadd, 1) := by decide +kernel
theorem dX11_sortOf_112 : decode cX11_sortOf 112 = .ok (.iload_n 2, 1) := by decide +kernel
theorem dX11_sortOf_113 : decode cX11_sortOf 113 = .ok (.iastore, 1) := by decide +kernel
theorem dX11_sortOf_114 : decode cX11_sortOf 114 = .ok (.iload_n 3, 1) := by decide +kernel
theorem dX11_sortOf_115 : decode cX11_sortOf 115 = .ok (.ireturn, 1) := by decide +kernel
theorem dX11_sort_0 : decode cX11_sort 0 = .ok (.aload_n 0, 1) := by decide +kernel
theorem dX11_sort_1 : decode cX11_sort 1 = .ok (.invokevirtual 218, 3) := by decide +kernel
theorem dX11_sort_4 : decode cX11_sort 4 = .ok (.aload_n 0, 1) := by decide +kernel
theorem dX11_sort_5 : decode cX11_sort 5 = .ok (.iload_n 1, 1) := by decide +kernel
theorem dX11_sort_6 : decode cX11_sort 6 = .ok (.invokevirtual 153, 3) := by decide +kernel
theorem dX11_sort_9 : decode cX11_sort 9 = .ok (.ifCond .eq 11, 3) := by decide +kernel
theorem dX11_sort_12 : decode cX11_sort 12 = .ok (.aload_n 0, 1) := by decide +kernel
theorem dX11_sort_13 : decode cX11_sort 13 = .ok (.iload_n 1, 1) := by decide +kernel
theorem dX11_sort_14 : decode cX11_sort 14 = .ok (.invokevirtual 268, 3) := by decide +kernel
theorem dX11_sort_17 : decode cX11_sort 17 = .ok (.goto 5, 3) := by decide +kernel
theorem dX11_sort_20 : decode cX11_sort 20 = .ok (.bipush (-2), 2) := by decide +kernel
theorem dX11_sort_22 : decode cX11_sort 22 = .ok (.ireturn, 1) := by decide +kernel
theorem dX11_forceOf_0 : decode cX11_forceOf 0 = .ok (.aload_n 0, 1) := by decide +kernel
theorem dX11_forceOf_1 : decode cX11_forceOf 1 = .ok (.getfield 31, 3) := by decide +kernel
theorem dX11_forceOf_4 : decode cX11_forceOf 4 = .ok (.iconst 5, 1) := by decide +kernel
theorem dX11_forceOf_5 : decode cX11_forceOf 5 = .ok (.iload_n 1, 1) := by decide +kernel
theorem dX11_forceOf_6 : decode cX11_forceOf 6 = .ok (.imul, 1) := by decide +kernel
theorem dX11_forceOf_7 : decode cX11_forceOf 7 = .ok (.iconst 3, 1) := by decide +kernel
theorem dX11_forceOf_8 : decode cX11_forceOf 8 = .ok (.iadd, 1) := by decide +kernel
theorem dX11_forceOf_9 : decode cX11_forceOf 9 = .ok (.iaload, 1) := by decide +kernel
theorem dX11_forceOf_10 : decode cX11_forceOf 10 = .ok (.istore_n 3, 1) := by decide +kernel
theorem dX11_forceOf_11 : decode cX11_forceOf 11 = .ok (.iconst 0, 1) := by decide +kernel
theorem dX11_forceOf_12 : decode cX11_forceOf 12 = .ok (.istore 4, 2) := by decide +kernel
theorem dX11_forceOf_14 : decode cX11_forceOf 14 = .ok (.iconst (-1), 1) := by decide +kernel
theorem dX11_forceOf_15 : decode cX11_forceOf 15 = .ok (.istore 5, 2) := by decide +kernel
theorem dX11_forceOf_17 : decode cX11_forceOf 17 = .ok (.iconst (-1), 1) := by decide +kernel
theorem dX11_forceOf_18 : decode cX11_forceOf 18 = .ok (.istore 6, 2) := by decide +kernel
theorem dX11_forceOf_20 : decode cX11_forceOf 20 = .ok (.iconst 0, 1) := by decide +kernel
theorem dX11_forceOf_21 : decode cX11_forceOf 21 = .ok (.istore 7, 2) := by decide +kernel
theorem dX11_forceOf_23 : decode cX11_forceOf 23 = .ok (.iload 7, 2) := by decide +kernel
theorem dX11_forceOf_25 : decode cX11_forceOf 25 = .ok (.bipush 100, 2) := by decide +kernel
theorem dX11_forceOf_27 : decode cX11_forceOf 27 = .ok (.if_icmp .ge 76, 3) := by decide +kernel
theorem dX11_forceOf_30 : decode cX11_forceOf 30 = .ok (.aload_n 0, 1) := by decide +kernel
theorem dX11_forceOf_31 : decode cX11_forceOf 31 = .ok (.getfield 31, 3) := by decide +kernel
theorem dX11_forceOf_34 : decode cX11_forceOf 34 = .ok (.iconst 5, 1) := by decide +kernel
theorem dX11_forceOf_35 : decode cX11_forceOf 35 = .ok (.iload_n 1, 1) := by decide +kernel
theorem dX11_forceOf_36 : decode cX11_forceOf 36 = .ok (.imul, 1) := by decide +kernel
theorem dX11_forceOf_37 : decode cX11_forceOf 37 = .ok (.iconst 3, 1) := by decide +kernel
theorem dX11_forceOf_38 : decode cX11_forceOf 38 = .ok (.iadd, 1) := by decide +kernel
theorem dX11_forceOf_39 : decode cX11_forceOf 39 = .ok (.iload 7, 2) := by decide +kernel
theorem dX11_forceOf_41 : decode cX11_forceOf 41 = .ok (.iastore, 1) := by decide +kernel
theorem dX11_forceOf_42 : decode cX11_forceOf 42 = .ok (.aload_n 0, 1) := by decide +kernel
theorem dX11_forceOf_43 : decode cX11_forceOf 43 = .ok (.invokevirtual 261, 3) := by decide +kernel
theorem dX11_forceOf_46 : decode cX11_forceOf 46 = .ok (.istore 8, 2) := by decide +kernel
theorem dX11_forceOf_48 : decode cX11_forceOf 48 = .ok (.iload 4, 2) := by decide +kernel
theorem dX11_forceOf_50 : decode cX11_forceOf 50 = .ok (.iload 8, 2) := by decide +kernel
theorem dX11_forceOf_52 : decode cX11_forceOf 52 = .ok (.ifCond .eq 7, 3) := by decide +kernel
theorem dX11_forceOf_55 : decode cX11_forceOf 55 = .ok (.iconst 1, 1) := by decide +kernel
theorem dX11_forceOf_56 : decode cX11_forceOf 56 = .ok (.goto 4, 3) := by decide +kernel
theorem dX11_forceOf_59 : decode cX11_forceOf 59 = .ok (.iconst 0, 1) := by decide +kernel
theorem dX11_forceOf_60 : decode cX11_forceOf 60 = .ok (.iadd, 1) := by decide +kernel
theorem dX11_forceOf_61 : decode cX11_forceOf 61 = .ok (.istore 4, 2) := by decide +kernel
theorem dX11_forceOf_63 : decode cX11_forceOf 63 = .ok (.iload 8, 2) := by decide +kernel
theorem dX11_forceOf_65 : decode cX11_forceOf 65 = .ok (.ifCond .eq 14, 3) := by decide +kernel
theorem dX11_forceOf_68 : decode cX11_forceOf 68 = .ok (.iload 5, 2) := by decide +kernel
theorem dX11_forceOf_70 : decode cX11_forceOf 70 = .ok (.iconst (-1), 1) := by decide +kernel
theorem dX11_forceOf_71 : decode cX11_forceOf 71 = .ok (.if_icmp .ne 8, 3) := by decide +kernel
theorem dX11_forceOf_74 : decode cX11_forceOf 74 = .ok (.iload 7, 2) := by decide +kernel
theorem dX11_forceOf_76 : decode cX11_forceOf 76 = .ok (.goto 5, 3) := by decide +kernel
theorem dX11_forceOf_79 : decode cX11_forceOf 79 = .ok (.iload 5, 2) := by decide +kernel
theorem dX11_forceOf_81 : decode cX11_forceOf 81 = .ok (.istore 5, 2) := by decide +kernel
theorem dX11_forceOf_83 : decode cX11_forceOf 83 = .ok (.iload 8, 2) := by decide +kernel
theorem dX11_forceOf_85 : decode cX11_forceOf 85 = .ok (.ifCond .eq 8, 3) := by decide +kernel
theorem dX11_forceOf_88 : decode cX11_forceOf 88 = .ok (.iload 7, 2) := by decide +kernel
theorem dX11_forceOf_90 : decode cX11_forceOf 90 = .ok (.goto 5, 3) := by decide +kernel
theorem dX11_forceOf_93 : decode cX11_forceOf 93 = .ok (.iload 6, 2) := by decide +kernel
theorem dX11_forceOf_95 : decode cX11_forceOf 95 = .ok (.istore 6, 2) := by decide +kernel
theorem dX11_forceOf_97 : decode cX11_forceOf 97 = .ok (.iinc 7 1, 3) := by decide +kernel
theorem dX11_forceOf_100 : decode cX11_forceOf 100 = .ok (.goto (-77), 3) := by decide +kernel
theorem dX11_forceOf_103 : decode cX11_forceOf 103 = .ok (.aload_n 0, 1) := by decide +kernel
theorem dX11_forceOf_104 : decode cX11_forceOf 104 = .ok (.getfield 31, 3) := by decide +kernel
theorem dX11_forceOf_107 : decode cX11_forceOf 107 = .ok (.iconst 5, 1) := by decide +kernel
theorem dX11_forceOf_108 : decode cX11_forceOf 108 = .ok (.iload_n 1, 1) := by decide +kernel
theorem dX11_forceOf_109 : decode cX11_forceOf 109 = .ok (.imul, 1) := by decide +kernel
theorem dX11_forceOf_110 : decode cX11_forceOf 110 = .ok (.iconst 3, 1) := by decide +kernel
theorem dX11_forceOf_111 : decode cX11_forceOf 111 = .ok (.iadd, 1) := by decide +kernel
theorem dX11_forceOf_112 : decode cX11_forceOf 112 = .ok (.iload_n 3, 1) := by decide +kernel
theorem dX11_forceOf_113 : decode cX11_forceOf 113 = .ok (.iastore, 1) := by decide +kernel
theorem dX11_forceOf_114 : decode cX11_forceOf 114 = .ok (.iload_n 2, 1) := by decide +kernel
theorem dX11_forceOf_115 : decode cX11_forceOf 115 = .ok (.ifCond .ne 8, 3) := by decide +kernel
theorem dX11_forceOf_118 : decode cX11_forceOf 118 = .ok (.iload 4, 2) := by decide +kernel
theorem dX11_forceOf_120 : decode cX11_forceOf 120 = .ok (.goto 15, 3) := by decide +kernel
theorem dX11_forceOf_123 : decode cX11_forceOf 123 = .ok (.iload_n 2, 1) := by decide +kernel
theorem dX11_forceOf_124 : decode cX11_forceOf 124 = .ok (.iconst 1, 1) := by decide +kernel
theorem dX11_forceOf_125 : decode cX11_forceOf 125 = .ok (.if_icmp .ne 8, 3) := by decide +kernel
theorem dX11_forceOf_128 : decode cX11_forceOf 128 = .ok (.iload 5, 2) := by decide +kernel
theorem dX11_forceOf_130 : decode cX11_forceOf 130 = .ok (.goto 5, 3) := by decide +kernel
theorem dX11_forceOf_133 : decode cX11_forceOf 133 = .ok (.iload 6, 2) := by decide +kernel
theorem dX11_forceOf_135 : decode cX11_forceOf 135 = .ok (.ireturn, 1) := by decide +kernel
theorem dX11_force_0 : decode cX11_force 0 = .ok (.aload_n 0, 1) := by decide +kernel
theorem dX11_force_1 : decode cX11_force 1 = .ok (.invokevirtual 218, 3) := by decide +kernel
theorem dX11_force_4 : decode cX11_force 4 = .ok (.aload_n 0, 1) := by decide +kernel
theorem dX11_force_5 : decode cX11_force 5 = .ok (.iload_n 1, 1) := by decide +kernel
theorem dX11_force_6 : decode cX11_force 6 = .ok (.invokevirtual 153, 3) := by decide +kernel
theorem dX11_force_9 : decode cX11_force 9 = .ok (.ifCond .eq 24, 3) := by decide +kernel
theorem dX11_force_12 : decode cX11_force 12 = .ok (.iload_n 2, 1) := by decide +kernel
theorem dX11_force_13 : decode cX11_force 13 = .ok (.i2l, 1) := by decide +kernel
theorem dX11_force_14 : decode cX11_force 14 = .ok (.lconst 0, 1) := by decide +kernel
theorem dX11_force_15 : decode cX11_force 15 = .ok (.ldc2_w 95, 3) := by decide +kernel
theorem dX11_force_18 : decode cX11_force 18 = .ok (.invokestatic 81, 3) := by decide +kernel
theorem dX11_force_21 : decode cX11_force 21 = .ok (.ifCond .eq 12, 3) := by decide +kernel
theorem dX11_force_24 : decode cX11_force 24 = .ok (.aload_n 0, 1) := by decide +kernel
theorem dX11_force_25 : decode cX11_force 25 = .ok (.iload_n 1, 1) := by decide +kernel
theorem dX11_force_26 : decode cX11_force 26 = .ok (.iload_n 2, 1) := by decide +kernel
theorem dX11_force_27 : decode cX11_force 27 = .ok (.invokevirtual 271, 3) := by decide +kernel
theorem dX11_force_30 : decode cX11_force 30 = .ok (.goto 5, 3) := by decide +kernel
theorem dX11_force_33 : decode cX11_force 33 = .ok (.bipush (-2), 2) := by decide +kernel
theorem dX11_force_35 : decode cX11_force 35 = .ok (.ireturn, 1) := by decide +kernel
theorem dX11_alike_0 : decode cX11_alike 0 = .ok (.iconst 0, 1) := by decide +kernel
theorem dX11_alike_1 : decode cX11_alike 1 = .ok (.istore_n 3, 1) := by decide +kernel
theorem dX11_alike_2 : decode cX11_alike 2 = .ok (.iconst 0, 1) := by decide +kernel
theorem dX11_alike_3 : decode cX11_alike 3 = .ok (.istore 4, 2) := by decide +kernel
theorem dX11_alike_5 : decode cX11_alike 5 = .ok (.iload 4, 2) := by decide +kernel
theorem dX11_alike_7 : decode cX11_alike 7 = .ok (.iconst 3, 1) := by decide +kernel
theorem dX11_alike_8 : decode cX11_alike 8 = .ok (.if_icmp .ge 89, 3) := by decide +kernel
theorem dX11_alike_11 : decode cX11_alike 11 = .ok (.iconst 0, 1) := by decide +kernel
theorem dX11_alike_12 : decode cX11_alike 12 = .ok (.istore 5, 2) := by decide +kernel
theorem dX11_alike_14 : decode cX11_alike 14 = .ok (.iconst 0, 1) := by decide +kernel
theorem dX11_alike_15 : decode cX11_alike 15 = .ok (.istore 6, 2) := by decide +kernel
theorem dX11_alike_17 : decode cX11_alike 17 = .ok (.iload 6, 2) := by decide +kernel
theorem dX11_alike_19 : decode cX11_alike 19 = .ok (.iconst 3, 1) := by decide +kernel
theorem dX11_alike_20 : decode cX11_alike 20 = .ok (.if_icmp .ge 64, 3) := by decide +kernel
theorem dX11_alike_23 : decode cX11_alike 23 = .ok (.iload 5, 2) := by decide +kernel
theorem dX11_alike_25 : decode cX11_alike 25 = .ok (.iload_n 1, 1) := by decide +kernel
theorem dX11_alike_26 : decode cX11_alike 26 = .ok (.iload 4, 2) := by decide +kernel
theorem dX11_alike_28 : decode cX11_alike 28 = .ok (.invokestatic 177, 3) := by decide +kernel
theorem dX11_alike_31 : decode cX11_alike 31 = .ok (.ifCond .eq 43, 3) := by decide +kernel
theorem dX11_alike_34 : decode cX11_alike 34 = .ok (.iload_n 1, 1) := by decide +kernel
theorem dX11_alike_35 : decode cX11_alike 35 = .ok (.iload 6, 2) := by decide +kernel
theorem dX11_alike_37 : decode cX11_alike 37 = .ok (.invokestatic 177, 3) := by decide +kernel
theorem dX11_alike_40 : decode cX11_alike 40 = .ok (.ifCond .eq 34, 3) := by decide +kernel
theorem dX11_alike_43 : decode cX11_alike 43 = .ok (.aload_n 0, 1) := by decide +kernel
theorem dX11_alike_44 : decode cX11_alike 44 = .ok (.getfield 76, 3) := by decide +kernel
theorem dX11_alike_47 : decode cX11_alike 47 = .ok (.bipush 40, 2) := by decide +kernel
theorem dX11_alike_49 : decode cX11_alike 49 = .ok (.iload 4, 2) := by decide +kernel
theorem dX11_alike_51 : decode cX11_alike 51 = .ok (.imul, 1) := by decide +kernel
theorem dX11_alike_52 : decode cX11_alike 52 = .ok (.iload_n 2, 1) := by decide +kernel
theorem dX11_alike_53 : decode cX11_alike 53 = .ok (.iadd, 1) := by decide +kernel
theorem dX11_alike_54 : decode cX11_alike 54 = .ok (.iaload, 1) := by decide +kernel
theorem dX11_alike_55 : decode cX11_alike 55 = .ok (.aload_n 0, 1) := by decide +kernel
theorem dX11_alike_56 : decode cX11_alike 56 = .ok (.getfield 76, 3) := by decide +kernel
theorem dX11_alike_59 : decode cX11_alike 59 = .ok (.bipush 40, 2) := by decide +kernel
theorem dX11_alike_61 : decode cX11_alike 61 = .ok (.iload 6, 2) := by decide +kernel
theorem dX11_alike_63 : decode cX11_alike 63 = .ok (.imul, 1) := by decide +kernel
theorem dX11_alike_64 : decode cX11_alike 64 = .ok (.iload_n 2, 1) := by decide +kernel
theorem dX11_alike_65 : decode cX11_alike 65 = .ok (.iadd, 1) := by decide +kernel
theorem dX11_alike_66 : decode cX11_alike 66 = .ok (.iaload, 1) := by decide +kernel
theorem dX11_alike_67 : decode cX11_alike 67 = .ok (.if_icmp .ne 7, 3) := by decide +kernel
theorem dX11_alike_70 : decode cX11_alike 70 = .ok (.iconst 1, 1) := by decide +kernel
theorem dX11_alike_71 : decode cX11_alike 71 = .ok (.goto 4, 3) := by decide +kernel
theorem dX11_alike_74 : decode cX11_alike 74 = .ok (.iconst 0, 1) := by decide +kernel
theorem dX11_alike_75 : decode cX11_alike 75 = .ok (.iadd, 1) := by decide +kernel
theorem dX11_alike_76 : decode cX11_alike 76 = .ok (.istore 5, 2) := by decide +kernel
theorem dX11_alike_78 : decode cX11_alike 78 = .ok (.iinc 6 1, 3) := by decide +kernel
theorem dX11_alike_81 : decode cX11_alike 81 = .ok (.goto (-64), 3) := by decide +kernel
theorem dX11_alike_84 : decode cX11_alike 84 = .ok (.iload 5, 2) := by decide +kernel
theorem dX11_alike_86 : decode cX11_alike 86 = .ok (.iload_n 3, 1) := by decide +kernel
theorem dX11_alike_87 : decode cX11_alike 87 = .ok (.invokestatic 229, 3) := by decide +kernel
theorem dX11_alike_90 : decode cX11_alike 90 = .ok (.istore_n 3, 1) := by decide +kernel
theorem dX11_alike_91 : decode cX11_alike 91 = .ok (.iinc 4 1, 3) := by decide +kernel
theorem dX11_alike_94 : decode cX11_alike 94 = .ok (.goto (-89), 3) := by decide +kernel
theorem dX11_alike_97 : decode cX11_alike 97 = .ok (.iload_n 3, 1) := by decide +kernel
theorem dX11_alike_98 : decode cX11_alike 98 = .ok (.ireturn, 1) := by decide +kernel
theorem dX11_askOf_0 : decode cX11_askOf 0 = .ok (.aload_n 0, 1) := by decide +kernel
theorem dX11_askOf_1 : decode cX11_askOf 1 = .ok (.iload_n 1, 1) := by decide +kernel
theorem dX11_askOf_2 : decode cX11_askOf 2 = .ok (.invokevirtual 268, 3) := by decide +kernel
theorem dX11_askOf_5 : decode cX11_askOf 5 = .ok (.istore_n 2, 1) := by decide +kernel
theorem dX11_askOf_6 : decode cX11_askOf 6 = .ok (.iconst 0, 1) := by decide +kernel
theorem dX11_askOf_7 : decode cX11_askOf 7 = .ok (.istore_n 3, 1) := by decide +kernel
theorem dX11_askOf_8 : decode cX11_askOf 8 = .ok (.iconst 1, 1) := by decide +kernel
theorem dX11_askOf_9 : decode cX11_askOf 9 = .ok (.istore 4, 2) := by decide +kernel
theorem dX11_askOf_11 : decode cX11_askOf 11 = .ok (.iload 4, 2) := by decide +kernel
theorem dX11_askOf_13 : decode cX11_askOf 13 = .ok (.bipush 40, 2) := by decide +kernel
theorem dX11_askOf_15 : decode cX11_askOf 15 = .ok (.if_icmp .ge 32, 3) := by decide +kernel
theorem dX11_askOf_18 : decode cX11_askOf 18 = .ok (.aload_n 0, 1) := by decide +kernel
theorem dX11_askOf_19 : decode cX11_askOf 19 = .ok (.iload_n 2, 1) := by decide +kernel
theorem dX11_askOf_20 : decode cX11_askOf 20 = .ok (.iload 4, 2) := by decide +kernel
theorem dX11_askOf_22 : decode cX11_askOf 22 = .ok (.invokevirtual 274, 3) := by decide +kernel
theorem dX11_askOf_25 : decode cX11_askOf 25 = .ok (.aload_n 0, 1) := by decide +kernel
theorem dX11_askOf_26 : decode cX11_askOf 26 = .ok (.iload_n 2, 1) := by decide +kernel
theorem dX11_askOf_27 : decode cX11_askOf 27 = .ok (.iload_n 3, 1) := by decide +kernel
theorem dX11_askOf_28 : decode cX11_askOf 28 = .ok (.invokevirtual 274, 3) := by decide +kernel
theorem dX11_askOf_31 : decode cX11_askOf 31 = .ok (.if_icmp .ge 8, 3) := by decide +kernel
theorem dX11_askOf_34 : decode cX11_askOf 34 = .ok (.iload 4, 2) := by decide +kernel
theorem dX11_askOf_36 : decode cX11_askOf 36 = .ok (.goto 4, 3) := by decide +kernel
theorem dX11_askOf_39 : decode cX11_askOf 39 = .ok (.iload_n 3, 1) := by decide +kernel
theorem dX11_askOf_40 : decode cX11_askOf 40 = .ok (.istore_n 3, 1) := by decide +kernel
theorem dX11_askOf_41 : decode cX11_askOf 41 = .ok (.iinc 4 1, 3) := by decide +kernel
theorem dX11_askOf_44 : decode cX11_askOf 44 = .ok (.goto (-33), 3) := by decide +kernel
theorem dX11_askOf_47 : decode cX11_askOf 47 = .ok (.iload_n 3, 1) := by decide +kernel
theorem dX11_askOf_48 : decode cX11_askOf 48 = .ok (.ireturn, 1) := by decide +kernel
theorem dX11_ask_0 : decode cX11_ask 0 = .ok (.aload_n 0, 1) := by decide +kernel
theorem dX11_ask_1 : decode cX11_ask 1 = .ok (.invokevirtual 218, 3) := by decide +kernel
theorem dX11_ask_4 : decode cX11_ask 4 = .ok (.aload_n 0, 1) := by decide +kernel
theorem dX11_ask_5 : decode cX11_ask 5 = .ok (.iload_n 1, 1) := by decide +kernel
theorem dX11_ask_6 : decode cX11_ask 6 = .ok (.invokevirtual 153, 3) := by decide +kernel
theorem dX11_ask_9 : decode cX11_ask 9 = .ok (.ifCond .eq 11, 3) := by decide +kernel
theorem dX11_ask_12 : decode cX11_ask 12 = .ok (.aload_n 0, 1) := by decide +kernel
theorem dX11_ask_13 : decode cX11_ask 13 = .ok (.iload_n 1, 1) := by decide +kernel
theorem dX11_ask_14 : decode cX11_ask 14 = .ok (.invokevirtual 277, 3) := by decide +kernel
theorem dX11_ask_17 : decode cX11_ask 17 = .ok (.goto 5, 3) := by decide +kernel
theorem dX11_ask_20 : decode cX11_ask 20 = .ok (.bipush (-2), 2) := by decide +kernel
theorem dX11_ask_22 : decode cX11_ask 22 = .ok (.ireturn, 1) := by decide +kernel
theorem dX11_rumourOf_0 : decode cX11_rumourOf 0 = .ok (.lconst 0, 1) := by decide +kernel
theorem dX11_rumourOf_1 : decode cX11_rumourOf 1 = .ok (.lstore 4, 2) := by decide +kernel
theorem dX11_rumourOf_3 : decode cX11_rumourOf 3 = .ok (.iconst 0, 1) := by decide +kernel
theorem dX11_rumourOf_4 : decode cX11_rumourOf 4 = .ok (.istore 6, 2) := by decide +kernel
theorem dX11_rumourOf_6 : decode cX11_rumourOf 6 = .ok (.iload 6, 2) := by decide +kernel
theorem dX11_rumourOf_8 : decode cX11_rumourOf 8 = .ok (.iconst 1, 1) := by decide +kernel
theorem dX11_rumourOf_9 : decode cX11_rumourOf 9 = .ok (.aload_n 0, 1) := by decide +kernel
theorem dX11_rumourOf_10 : decode cX11_rumourOf 10 = .ok (.getfield 166, 3) := by decide +kernel
theorem dX11_rumourOf_13 : decode cX11_rumourOf 13 = .ok (.ishl, 1) := by decide +kernel
theorem dX11_rumourOf_14 : decode cX11_rumourOf 14 = .ok (.if_icmp .ge 82, 3) := by decide +kernel
theorem dX11_rumourOf_17 : decode cX11_rumourOf 17 = .ok (.aload_n 0, 1) := by decide +kernel
theorem dX11_rumourOf_18 : decode cX11_rumourOf 18 = .ok (.iload 6, 2) := by decide +kernel
theorem dX11_rumourOf_20 : decode cX11_rumourOf 20 = .ok (.putfield 174, 3) := by decide +kernel
theorem dX11_rumourOf_23 : decode cX11_rumourOf 23 = .ok (.aload_n 0, 1) := by decide +kernel
theorem dX11_rumourOf_24 : decode cX11_rumourOf 24 = .ok (.invokevirtual 215, 3) := by decide +kernel
theorem dX11_rumourOf_27 : decode cX11_rumourOf 27 = .ok (.aload_n 0, 1) := by decide +kernel
theorem dX11_rumourOf_28 : decode cX11_rumourOf 28 = .ok (.getfield 46, 3) := by decide +kernel
theorem dX11_rumourOf_31 : decode cX11_rumourOf 31 = .ok (.iload_n 2, 1) := by decide +kernel
theorem dX11_rumourOf_32 : decode cX11_rumourOf 32 = .ok (.iaload, 1) := by decide +kernel
theorem dX11_rumourOf_33 : decode cX11_rumourOf 33 = .ok (.iconst 2, 1) := by decide +kernel
theorem dX11_rumourOf_34 : decode cX11_rumourOf 34 = .ok (.if_icmp .ne 56, 3) := by decide +kernel
theorem dX11_rumourOf_37 : decode cX11_rumourOf 37 = .ok (.lconst 1, 1) := by decide +kernel
theorem dX11_rumourOf_38 : decode cX11_rumourOf 38 = .ok (.lstore 7, 2) := by decide +kernel
theorem dX11_rumourOf_40 : decode cX11_rumourOf 40 = .ok (.iconst 0, 1) := by decide +kernel
theorem dX11_rumourOf_41 : decode cX11_rumourOf 41 = .ok (.istore 9, 2) := by decide +kernel
theorem dX11_rumourOf_43 : decode cX11_rumourOf 43 = .ok (.iload 9, 2) := by decide +kernel
theorem dX11_rumourOf_45 : decode cX11_rumourOf 45 = .ok (.aload_n 0, 1) := by decide +kernel
theorem dX11_rumourOf_46 : decode cX11_rumourOf 46 = .ok (.getfield 166, 3) := by decide +kernel
theorem dX11_rumourOf_49 : decode cX11_rumourOf 49 = .ok (.if_icmp .ge 34, 3) := by decide +kernel
theorem dX11_rumourOf_52 : decode cX11_rumourOf 52 = .ok (.lload 7, 2) := by decide +kernel
theorem dX11_rumourOf_54 : decode cX11_rumourOf 54 = .ok (.iload 6, 2) := by decide +kernel
theorem dX11_rumourOf_56 : decode cX11_rumourOf 56 = .ok (.iload 9, 2) := by decide +kernel
theorem dX11_rumourOf_58 : decode cX11_rumourOf 58 = .ok (.invokestatic 177, 3) := by decide +kernel
theorem dX11_rumourOf_61 : decode cX11_rumourOf 61 = .ok (.ifCond .eq 11, 3) := by decide +kernel
theorem dX11_rumourOf_64 : decode cX11_rumourOf 64 = .ok (.bipush 16, 2) := by decide +kernel
theorem dX11_rumourOf_66 : decode cX11_rumourOf 66 = .ok (.iload_n 1, 1) := by decide +kernel
theorem dX11_rumourOf_67 : decode cX11_rumourOf 67 = .ok (.isub, 1) := by decide +kernel
theorem dX11_rumourOf_68 : decode cX11_rumourOf 68 = .ok (.i2l, 1) := by decide +kernel
theorem dX11_rumourOf_69 : decode cX11_rumourOf 69 = .ok (.goto 5, 3) := by decide +kernel
theorem dX11_rumourOf_72 : decode cX11_rumourOf 72 = .ok (.iload_n 1, 1) := by decide +kernel
theorem dX11_rumourOf_73 : decode cX11_rumourOf 73 = .ok (.i2l, 1) := by decide +kernel
theorem dX11_rumourOf_74 : decode cX11_rumourOf 74 = .ok (.lmul, 1) := by decide +kernel
theorem dX11_rumourOf_75 : decode cX11_rumourOf 75 = .ok (.lstore 7, 2) := by decide +kernel
theorem dX11_rumourOf_77 : decode cX11_rumourOf 77 = .ok (.iinc 9 1, 3) := by decide +kernel
theorem dX11_rumourOf_80 : decode cX11_rumourOf 80 = .ok (.goto (-37), 3) := by decide +kernel
theorem dX11_rumourOf_83 : decode cX11_rumourOf 83 = .ok (.lload 4, 2) := by decide +kernel
theorem dX11_rumourOf_85 : decode cX11_rumourOf 85 = .ok (.lload 7, 2) := by decide +kernel
theorem dX11_rumourOf_87 : decode cX11_rumourOf 87 = .ok (.ladd, 1) := by decide +kernel
theorem dX11_rumourOf_88 : decode cX11_rumourOf 88 = .ok (.lstore 4, 2) := by decide +kernel
theorem dX11_rumourOf_90 : decode cX11_rumourOf 90 = .ok (.iinc 6 1, 3) := by decide +kernel
theorem dX11_rumourOf_93 : decode cX11_rumourOf 93 = .ok (.goto (-87), 3) := by decide +kernel
theorem dX11_rumourOf_96 : decode cX11_rumourOf 96 = .ok (.aload_n 0, 1) := by decide +kernel
theorem dX11_rumourOf_97 : decode cX11_rumourOf 97 = .ok (.iconst 0, 1) := by decide +kernel
theorem dX11_rumourOf_98 : decode cX11_rumourOf 98 = .ok (.putfield 174, 3) := by decide +kernel
theorem dX11_rumourOf_101 : decode cX11_rumourOf 101 = .ok (.lload 4, 2) := by decide +kernel
theorem dX11_rumourOf_103 : decode cX11_rumourOf 103 = .ok (.lconst 1, 1) := by decide +kernel
theorem dX11_rumourOf_104 : decode cX11_rumourOf 104 = .ok (.iconst 4, 1) := by decide +kernel
theorem dX11_rumourOf_105 : decode cX11_rumourOf 105 = .ok (.aload_n 0, 1) := by decide +kernel
theorem dX11_rumourOf_106 : decode cX11_rumourOf 106 = .ok (.getfield 166, 3) := by decide +kernel
theorem dX11_rumourOf_109 : decode cX11_rumourOf 109 = .ok (.imul, 1) := by decide +kernel
theorem dX11_rumourOf_110 : decode cX11_rumourOf 110 = .ok (.lshl, 1) := by decide +kernel
theorem dX11_rumourOf_111 : decode cX11_rumourOf 111 = .ok (.iload_n 3, 1) := by decide +kernel
theorem dX11_rumourOf_112 : decode cX11_rumourOf 112 = .ok (.invokestatic 280, 3) := by decide +kernel
theorem dX11_rumourOf_115 : decode cX11_rumourOf 115 = .ok (.lreturn, 1) := by decide +kernel
theorem dX11_rumour_0 : decode cX11_rumour 0 = .ok (.aload_n 0, 1) := by decide +kernel
theorem dX11_rumour_1 : decode cX11_rumour 1 = .ok (.invokevirtual 218, 3) := by decide +kernel
theorem dX11_rumour_4 : decode cX11_rumour 4 = .ok (.iload_n 1, 1) := by decide +kernel
theorem dX11_rumour_5 : decode cX11_rumour 5 = .ok (.i2l, 1) := by decide +kernel
theorem dX11_rumour_6 : decode cX11_rumour 6 = .ok (.lconst 0, 1) := by decide +kernel
theorem dX11_rumour_7 : decode cX11_rumour 7 = .ok (.ldc2_w 284, 3) := by decide +kernel
theorem dX11_rumour_10 : decode cX11_rumour 10 = .ok (.invokestatic 81, 3) := by decide +kernel
theorem dX11_rumour_13 : decode cX11_rumour 13 = .ok (.ifCond .eq 28, 3) := by decide +kernel
theorem dX11_rumour_16 : decode cX11_rumour 16 = .ok (.aload_n 0, 1) := by decide +kernel
theorem dX11_rumour_17 : decode cX11_rumour 17 = .ok (.iload_n 2, 1) := by decide +kernel
theorem dX11_rumour_18 : decode cX11_rumour 18 = .ok (.invokevirtual 153, 3) := by decide +kernel
theorem dX11_rumour_21 : decode cX11_rumour 21 = .ok (.ifCond .eq 20, 3) := by decide +kernel
theorem dX11_rumour_24 : decode cX11_rumour 24 = .ok (.iload_n 3, 1) := by decide +kernel
theorem dX11_rumour_25 : decode cX11_rumour 25 = .ok (.invokestatic 110, 3) := by decide +kernel
theorem dX11_rumour_28 : decode cX11_rumour 28 = .ok (.ifCond .eq 13, 3) := by decide +kernel
theorem dX11_rumour_31 : decode cX11_rumour 31 = .ok (.aload_n 0, 1) := by decide +kernel
theorem dX11_rumour_32 : decode cX11_rumour 32 = .ok (.iload_n 1, 1) := by decide +kernel
theorem dX11_rumour_33 : decode cX11_rumour 33 = .ok (.iload_n 2, 1) := by decide +kernel
theorem dX11_rumour_34 : decode cX11_rumour 34 = .ok (.iload_n 3, 1) := by decide +kernel
theorem dX11_rumour_35 : decode cX11_rumour 35 = .ok (.invokevirtual 286, 3) := by decide +kernel
theorem dX11_rumour_38 : decode cX11_rumour 38 = .ok (.goto 8, 3) := by decide +kernel
theorem dX11_rumour_41 : decode cX11_rumour 41 = .ok (.bipush (-2), 2) := by decide +kernel
theorem dX11_rumour_43 : decode cX11_rumour 43 = .ok (.invokestatic 290, 3) := by decide +kernel
theorem dX11_rumour_46 : decode cX11_rumour 46 = .ok (.lreturn, 1) := by decide +kernel
theorem dX11_lot_0 : decode cX11_lot 0 = .ok (.aload_n 0, 1) := by decide +kernel
theorem dX11_lot_1 : decode cX11_lot 1 = .ok (.ldc_w 294, 3) := by decide +kernel
theorem dX11_lot_4 : decode cX11_lot 4 = .ok (.aload_n 0, 1) := by decide +kernel
theorem dX11_lot_5 : decode cX11_lot 5 = .ok (.getfield 295, 3) := by decide +kernel
theorem dX11_lot_8 : decode cX11_lot 8 = .ok (.imul, 1) := by decide +kernel
theorem dX11_lot_9 : decode cX11_lot 9 = .ok (.sipush 12345, 3) := by decide +kernel
theorem dX11_lot_12 : decode cX11_lot 12 = .ok (.iadd, 1) := by decide +kernel
theorem dX11_lot_13 : decode cX11_lot 13 = .ok (.putfield 295, 3) := by decide +kernel
theorem dX11_lot_16 : decode cX11_lot 16 = .ok (.aload_n 0, 1) := by decide +kernel
theorem dX11_lot_17 : decode cX11_lot 17 = .ok (.getfield 295, 3) := by decide +kernel
theorem dX11_lot_20 : decode cX11_lot 20 = .ok (.bipush 16, 2) := by decide +kernel
theorem dX11_lot_22 : decode cX11_lot 22 = .ok (.iushr, 1) := by decide +kernel
theorem dX11_lot_23 : decode cX11_lot 23 = .ok (.iload_n 1, 1) := by decide +kernel
theorem dX11_lot_24 : decode cX11_lot 24 = .ok (.irem, 1) := by decide +kernel
theorem dX11_lot_25 : decode cX11_lot 25 = .ok (.ireturn, 1) := by decide +kernel
theorem dX11_marketOf_0 : decode cX11_marketOf 0 = .ok (.aload_n 0, 1) := by decide +kernel
theorem dX11_marketOf_1 : decode cX11_marketOf 1 = .ok (.iload_n 1, 1) := by decide +kernel
theorem dX11_marketOf_2 : decode cX11_marketOf 2 = .ok (.putfield 295, 3) := by decide +kernel
theorem dX11_marketOf_5 : decode cX11_marketOf 5 = .ok (.iconst 0, 1) := by decide +kernel
theorem dX11_marketOf_6 : decode cX11_marketOf 6 = .ok (.istore_n 3, 1) := by decide +kernel
theorem dX11_marketOf_7 : decode cX11_marketOf 7 = .ok (.iload_n 3, 1) := by decide +kernel
theorem dX11_marketOf_8 : decode cX11_marketOf 8 = .ok (.aload_n 0, 1) := by decide +kernel
theorem dX11_marketOf_9 : decode cX11_marketOf 9 = .ok (.getfield 133, 3) := by decide +kernel
theorem dX11_marketOf_12 : decode cX11_marketOf 12 = .ok (.if_icmp .ge 25, 3) := by decide +kernel
theorem dX11_marketOf_15 : decode cX11_marketOf 15 = .ok (.aload_n 0, 1) := by decide +kernel
theorem dX11_marketOf_16 : decode cX11_marketOf 16 = .ok (.getfield 31, 3) := by decide +kernel
theorem dX11_marketOf_19 : decode cX11_marketOf 19 = .ok (.iconst 5, 1) := by decide +kernel
theorem dX11_marketOf_20 : decode cX11_marketOf 20 = .ok (.iload_n 3, 1) := by decide +kernel
theorem dX11_marketOf_21 : decode cX11_marketOf 21 = .ok (.imul, 1) := by decide +kernel
theorem dX11_marketOf_22 : decode cX11_marketOf 22 = .ok (.iconst 3, 1) := by decide +kernel
theorem dX11_marketOf_23 : decode cX11_marketOf 23 = .ok (.iadd, 1) := by decide +kernel
theorem dX11_marketOf_24 : decode cX11_marketOf 24 = .ok (.aload_n 0, 1) := by decide +kernel
theorem dX11_marketOf_25 : decode cX11_marketOf 25 = .ok (.bipush 100, 2) := by decide +kernel
theorem dX11_marketOf_27 : decode cX11_marketOf 27 = .ok (.invokevirtual 298, 3) := by decide +kernel
theorem dX11_marketOf_30 : decode cX11_marketOf 30 = .ok (.iastore, 1) := by decide +kernel
theorem dX11_marketOf_31 : decode cX11_marketOf 31 = .ok (.iinc 3 1, 3) := by decide +kernel
theorem dX11_marketOf_34 : decode cX11_marketOf 34 = .ok (.goto (-27), 3) := by decide +kernel
theorem dX11_marketOf_37 : decode cX11_marketOf 37 = .ok (.aload_n 0, 1) := by decide +kernel
theorem dX11_marketOf_38 : decode cX11_marketOf 38 = .ok (.invokevirtual 215, 3) := by decide +kernel
theorem dX11_marketOf_41 : decode cX11_marketOf 41 = .ok (.aload_n 0, 1) := by decide +kernel
theorem dX11_marketOf_42 : decode cX11_marketOf 42 = .ok (.invokevirtual 143, 3) := by decide +kernel
theorem dX11_marketOf_45 : decode cX11_marketOf 45 = .ok (.pop, 1) := by decide +kernel
theorem dX11_marketOf_46 : decode cX11_marketOf 46 = .ok (.aload_n 0, 1) := by decide +kernel
theorem dX11_marketOf_47 : decode cX11_marketOf 47 = .ok (.iload_n 2, 1) := by decide +kernel
theorem dX11_marketOf_48 : decode cX11_marketOf 48 = .ok (.ifCond .ne 7, 3) := by decide +kernel
theorem dX11_marketOf_51 : decode cX11_marketOf 51 = .ok (.iconst 2, 1) := by decide +kernel
theorem dX11_marketOf_52 : decode cX11_marketOf 52 = .ok (.goto 4, 3) := by decide +kernel
theorem dX11_marketOf_55 : decode cX11_marketOf 55 = .ok (.iconst 4, 1) := by decide +kernel
theorem dX11_marketOf_56 : decode cX11_marketOf 56 = .ok (.invokevirtual 226, 3) := by decide +kernel
theorem dX11_marketOf_59 : decode cX11_marketOf 59 = .ok (.invokestatic 235, 3) := by decide +kernel
theorem dX11_marketOf_62 : decode cX11_marketOf 62 = .ok (.ireturn, 1) := by decide +kernel
theorem dX11_market_0 : decode cX11_market 0 = .ok (.aload_n 0, 1) := by decide +kernel
theorem dX11_market_1 : decode cX11_market 1 = .ok (.invokevirtual 218, 3) := by decide +kernel
theorem dX11_market_4 : decode cX11_market 4 = .ok (.iload_n 2, 1) := by decide +kernel
theorem dX11_market_5 : decode cX11_market 5 = .ok (.invokestatic 110, 3) := by decide +kernel
theorem dX11_market_8 : decode cX11_market 8 = .ok (.ifCond .eq 12, 3) := by decide +kernel
theorem dX11_market_11 : decode cX11_market 11 = .ok (.aload_n 0, 1) := by decide +kernel
theorem dX11_market_12 : decode cX11_market 12 = .ok (.iload_n 1, 1) := by decide +kernel
theorem dX11_market_13 : decode cX11_market 13 = .ok (.iload_n 2, 1) := by decide +kernel
theorem dX11_market_14 : decode cX11_market 14 = .ok (.invokevirtual 301, 3) := by decide +kernel
theorem dX11_market_17 : decode cX11_market 17 = .ok (.goto 5, 3) := by decide +kernel
theorem dX11_market_20 : decode cX11_market 20 = .ok (.bipush (-2), 2) := by decide +kernel
theorem dX11_market_22 : decode cX11_market 22 = .ok (.ireturn, 1) := by decide +kernel
theorem dX11_write_0 : decode cX11_write 0 = .ok (.aload_n 0, 1) := by decide +kernel
theorem dX11_write_1 : decode cX11_write 1 = .ok (.invokevirtual 218, 3) := by decide +kernel
theorem dX11_write_4 : decode cX11_write 4 = .ok (.aload_n 0, 1) := by decide +kernel
theorem dX11_write_5 : decode cX11_write 5 = .ok (.iload_n 1, 1) := by decide +kernel
theorem dX11_write_6 : decode cX11_write 6 = .ok (.invokevirtual 153, 3) := by decide +kernel
theorem dX11_write_9 : decode cX11_write 9 = .ok (.ifCond .eq 10, 3) := by decide +kernel
theorem dX11_write_12 : decode cX11_write 12 = .ok (.iload_n 2, 1) := by decide +kernel
theorem dX11_write_13 : decode cX11_write 13 = .ok (.invokestatic 91, 3) := by decide +kernel
theorem dX11_write_16 : decode cX11_write 16 = .ok (.ifCond .ne 6, 3) := by decide +kernel
theorem dX11_write_19 : decode cX11_write 19 = .ok (.bipush (-2), 2) := by decide +kernel
theorem dX11_write_21 : decode cX11_write 21 = .ok (.ireturn, 1) := by decide +kernel
theorem dX11_write_22 : decode cX11_write 22 = .ok (.aload_n 0, 1) := by decide +kernel
theorem dX11_write_23 : decode cX11_write 23 = .ok (.getfield 7, 3) := by decide +kernel
theorem dX11_write_26 : decode cX11_write 26 = .ok (.iload_n 2, 1) := by decide +kernel
theorem dX11_write_27 : decode cX11_write 27 = .ok (.iaload, 1) := by decide +kernel
theorem dX11_write_28 : decode cX11_write 28 = .ok (.ifCond .ge 9, 3) := by decide +kernel
theorem dX11_write_31 : decode cX11_write 31 = .ok (.aload_n 0, 1) := by decide +kernel
theorem dX11_write_32 : decode cX11_write 32 = .ok (.iconst 1, 1) := by decide +kernel
theorem dX11_write_33 : decode cX11_write 33 = .ok (.invokevirtual 97, 3) := by decide +kernel
theorem dX11_write_36 : decode cX11_write 36 = .ok (.ireturn, 1) := by decide +kernel
theorem dX11_write_37 : decode cX11_write 37 = .ok (.aload_n 0, 1) := by decide +kernel
theorem dX11_write_38 : decode cX11_write 38 = .ok (.getfield 13, 3) := by decide +kernel
theorem dX11_write_41 : decode cX11_write 41 = .ok (.iload_n 2, 1) := by decide +kernel
theorem dX11_write_42 : decode cX11_write 42 = .ok (.iaload, 1) := by decide +kernel
theorem dX11_write_43 : decode cX11_write 43 = .ok (.bipush 40, 2) := by decide +kernel
theorem dX11_write_45 : decode cX11_write 45 = .ok (.invokestatic 171, 3) := by decide +kernel
theorem dX11_write_48 : decode cX11_write 48 = .ok (.istore_n 3, 1) := by decide +kernel
theorem dX11_write_49 : decode cX11_write 49 = .ok (.iconst 0, 1) := by decide +kernel
theorem dX11_write_50 : decode cX11_write 50 = .ok (.istore 4, 2) := by decide +kernel
theorem dX11_write_52 : decode cX11_write 52 = .ok (.iload 4, 2) := by decide +kernel
theorem dX11_write_54 : decode cX11_write 54 = .ok (.iload_n 3, 1) := by decide +kernel
theorem dX11_write_55 : decode cX11_write 55 = .ok (.if_icmp .ge 46, 3) := by decide +kernel
theorem dX11_write_58 : decode cX11_write 58 = .ok (.aload_n 0, 1) := by decide +kernel
theorem dX11_write_59 : decode cX11_write 59 = .ok (.getfield 16, 3) := by decide +kernel
theorem dX11_write_62 : decode cX11_write 62 = .ok (.bipush 60, 2) := by decide +kernel
theorem dX11_write_64 : decode cX11_write 64 = .ok (.iload_n 2, 1) := by decide +kernel
theorem dX11_write_65 : decode cX11_write 65 = .ok (.imul, 1) := by decide +kernel
theorem dX11_write_66 : decode cX11_write 66 = .ok (.iload 4, 2) := by decide +kernel
theorem dX11_write_68 : decode cX11_write 68 = .ok (.iadd, 1) := by decide +kernel
theorem dX11_write_69 : decode cX11_write 69 = .ok (.aload_n 0, 1) := by decide +kernel
theorem dX11_write_70 : decode cX11_write 70 = .ok (.getfield 7, 3) := by decide +kernel
theorem dX11_write_73 : decode cX11_write 73 = .ok (.iload_n 2, 1) := by decide +kernel
theorem dX11_write_74 : decode cX11_write 74 = .ok (.iaload, 1) := by decide +kernel
theorem dX11_write_75 : decode cX11_write 75 = .ok (.aload_n 0, 1) := by decide +kernel
theorem dX11_write_76 : decode cX11_write 76 = .ok (.getfield 64, 3) := by decide +kernel
theorem dX11_write_79 : decode cX11_write 79 = .ok (.bipush 32, 2) := by decide +kernel
theorem dX11_write_81 : decode cX11_write 81 = .ok (.iload 4, 2) := by decide +kernel
theorem dX11_write_83 : decode cX11_write 83 = .ok (.imul, 1) := by decide +kernel
theorem dX11_write_84 : decode cX11_write 84 = .ok (.iconst 4, 1) := by decide +kernel
theorem dX11_write_85 : decode cX11_write 85 = .ok (.iload_n 1, 1) := by decide +kernel
theorem dX11_write_86 : decode cX11_write 86 = .ok (.imul, 1) := by decide +kernel
theorem dX11_write_87 : decode cX11_write 87 = .ok (.iadd, 1) := by decide +kernel
theorem dX11_write_88 : decode cX11_write 88 = .ok (.iconst 1, 1) := by decide +kernel
theorem dX11_write_89 : decode cX11_write 89 = .ok (.iadd, 1) := by decide +kernel
theorem dX11_write_90 : decode cX11_write 90 = .ok (.iaload, 1) := by decide +kernel
theorem dX11_write_91 : decode cX11_write 91 = .ok (.invokestatic 105, 3) := by decide +kernel
theorem dX11_write_94 : decode cX11_write 94 = .ok (.iastore, 1) := by decide +kernel
theorem dX11_write_95 : decode cX11_write 95 = .ok (.iinc 4 1, 3) := by decide +kernel
theorem dX11_write_98 : decode cX11_write 98 = .ok (.goto (-46), 3) := by decide +kernel
theorem dX11_write_101 : decode cX11_write 101 = .ok (.iload_n 3, 1) := by decide +kernel
theorem dX11_write_102 : decode cX11_write 102 = .ok (.ireturn, 1) := by decide +kernel
theorem dX11_allArrivals_0 : decode cX11_allArrivals 0 = .ok (.iconst 0, 1) := by decide +kernel
theorem dX11_allArrivals_1 : decode cX11_allArrivals 1 = .ok (.istore_n 1, 1) := by decide +kernel
theorem dX11_allArrivals_2 : decode cX11_allArrivals 2 = .ok (.iconst 0, 1) := by decide +kernel
theorem dX11_allArrivals_3 : decode cX11_allArrivals 3 = .ok (.istore_n 2, 1) := by decide +kernel
theorem dX11_allArrivals_4 : decode cX11_allArrivals 4 = .ok (.iload_n 2, 1) := by decide +kernel
theorem dX11_allArrivals_5 : decode cX11_allArrivals 5 = .ok (.bipush 8, 2) := by decide +kernel
theorem dX11_allArrivals_7 : decode cX11_allArrivals 7 = .ok (.if_icmp .ge 18, 3) := by decide +kernel
theorem dX11_allArrivals_10 : decode cX11_allArrivals 10 = .ok (.iload_n 1, 1) := by decide +kernel
theorem dX11_allArrivals_11 : decode cX11_allArrivals 11 = .ok (.aload_n 0, 1) := by decide +kernel
theorem dX11_allArrivals_12 : decode cX11_allArrivals 12 = .ok (.getfield 70, 3) := by decide +kernel
theorem dX11_allArrivals_15 : decode cX11_allArrivals 15 = .ok (.iload_n 2, 1) := by decide +kernel
theorem dX11_allArrivals_16 : decode cX11_allArrivals 16 = .ok (.iaload, 1) := by decide +kernel
theorem dX11_allArrivals_17 : decode cX11_allArrivals 17 = .ok (.iadd, 1) := by decide +kernel
theorem dX11_allArrivals_18 : decode cX11_allArrivals 18 = .ok (.istore_n 1, 1) := by decide +kernel
theorem dX11_allArrivals_19 : decode cX11_allArrivals 19 = .ok (.iinc 2 1, 3) := by decide +kernel
theorem dX11_allArrivals_22 : decode cX11_allArrivals 22 = .ok (.goto (-18), 3) := by decide +kernel
theorem dX11_allArrivals_25 : decode cX11_allArrivals 25 = .ok (.iload_n 1, 1) := by decide +kernel
theorem dX11_allArrivals_26 : decode cX11_allArrivals 26 = .ok (.ireturn, 1) := by decide +kernel
theorem dX11_count_0 : decode cX11_count 0 = .ok (.aload_n 0, 1) := by decide +kernel
theorem dX11_count_1 : decode cX11_count 1 = .ok (.invokevirtual 218, 3) := by decide +kernel
theorem dX11_count_4 : decode cX11_count 4 = .ok (.iload_n 1, 1) := by decide +kernel
theorem dX11_count_5 : decode cX11_count 5 = .ok (.tableswitch 95 0 8 #[51, 56, 61, 61, 70, 75, 80, 85, 90], 51) := by decide +kernel
theorem dX11_count_56 : decode cX11_count 56 = .ok (.aload_n 0, 1) := by decide +kernel
theorem dX11_count_57 : decode cX11_count 57 = .ok (.getfield 127, 3) := by decide +kernel
theorem dX11_count_60 : decode cX11_count 60 = .ok (.ireturn, 1) := by decide +kernel
theorem dX11_count_61 : decode cX11_count 61 = .ok (.aload_n 0, 1) := by decide +kernel
theorem dX11_count_62 : decode cX11_count 62 = .ok (.getfield 133, 3) := by decide +kernel
theorem dX11_count_65 : decode cX11_count 65 = .ok (.ireturn, 1) := by decide +kernel
theorem dX11_count_66 : decode cX11_count 66 = .ok (.aload_n 0, 1) := by decide +kernel
theorem dX11_count_67 : decode cX11_count 67 = .ok (.getfield 25, 3) := by decide +kernel
theorem dX11_count_70 : decode cX11_count 70 = .ok (.iload_n 1, 1) := by decide +kernel
theorem dX11_count_71 : decode cX11_count 71 = .ok (.iconst 2, 1) := by decide +kernel
theorem dX11_count_72 : decode cX11_count 72 = .ok (.isub, 1) := by decide +kernel
theorem dX11_count_73 : decode cX11_count 73 = .ok (.iaload, 1) := by decide +kernel
theorem dX11_count_74 : decode cX11_count 74 = .ok (.ireturn, 1) := by decide +kernel
theorem dX11_count_75 : decode cX11_count 75 = .ok (.aload_n 0, 1) := by decide +kernel
theorem dX11_count_76 : decode cX11_count 76 = .ok (.getfield 166, 3) := by decide +kernel
theorem dX11_count_79 : decode cX11_count 79 = .ok (.ireturn, 1) := by decide +kernel
theorem dX11_count_80 : decode cX11_count 80 = .ok (.aload_n 0, 1) := by decide +kernel
theorem dX11_count_81 : decode cX11_count 81 = .ok (.invokevirtual 244, 3) := by decide +kernel
theorem dX11_count_84 : decode cX11_count 84 = .ok (.ireturn, 1) := by decide +kernel
theorem dX11_count_85 : decode cX11_count 85 = .ok (.aload_n 0, 1) := by decide +kernel
theorem dX11_count_86 : decode cX11_count 86 = .ok (.invokevirtual 304, 3) := by decide +kernel
theorem dX11_count_89 : decode cX11_count 89 = .ok (.ireturn, 1) := by decide +kernel
theorem dX11_count_90 : decode cX11_count 90 = .ok (.aload_n 0, 1) := by decide +kernel
theorem dX11_count_91 : decode cX11_count 91 = .ok (.getfield 258, 3) := by decide +kernel
theorem dX11_count_94 : decode cX11_count 94 = .ok (.ireturn, 1) := by decide +kernel
theorem dX11_count_95 : decode cX11_count 95 = .ok (.aload_n 0, 1) := by decide +kernel
theorem dX11_count_96 : decode cX11_count 96 = .ok (.getfield 85, 3) := by decide +kernel
theorem dX11_count_99 : decode cX11_count 99 = .ok (.ireturn, 1) := by decide +kernel
theorem dX11_count_100 : decode cX11_count 100 = .ok (.bipush (-2), 2) := by decide +kernel
theorem dX11_count_102 : decode cX11_count 102 = .ok (.ireturn, 1) := by decide +kernel
theorem dX11_tellsHour_0 : decode cX11_tellsHour 0 = .ok (.lload_n 1, 1) := by decide +kernel
theorem dX11_tellsHour_1 : decode cX11_tellsHour 1 = .ok (.lstore 5, 2) := by decide +kernel
theorem dX11_tellsHour_3 : decode cX11_tellsHour 3 = .ok (.iconst 0, 1) := by decide +kernel
theorem dX11_tellsHour_4 : decode cX11_tellsHour 4 = .ok (.istore 7, 2) := by decide +kernel
theorem dX11_tellsHour_6 : decode cX11_tellsHour 6 = .ok (.iload 7, 2) := by decide +kernel
theorem dX11_tellsHour_8 : decode cX11_tellsHour 8 = .ok (.iconst 4, 1) := by decide +kernel
theorem dX11_tellsHour_9 : decode cX11_tellsHour 9 = .ok (.if_icmp .ge 36, 3) := by decide +kernel
theorem dX11_tellsHour_12 : decode cX11_tellsHour 12 = .ok (.ldc2_w 307, 3) := by decide +kernel
theorem dX11_tellsHour_15 : decode cX11_tellsHour 15 = .ok (.lload 5, 2) := by decide +kernel
theorem dX11_tellsHour_17 : decode cX11_tellsHour 17 = .ok (.lmul, 1) := by decide +kernel
theorem dX11_tellsHour_18 : decode cX11_tellsHour 18 = .ok (.aload_n 0, 1) := by decide +kernel
theorem dX11_tellsHour_19 : decode cX11_tellsHour 19 = .ok (.getfield 64, 3) := by decide +kernel
theorem dX11_tellsHour_22 : decode cX11_tellsHour 22 = .ok (.bipush 32, 2) := by decide +kernel
theorem dX11_tellsHour_24 : decode cX11_tellsHour 24 = .ok (.iload 4, 2) := by decide +kernel
theorem dX11_tellsHour_26 : decode cX11_tellsHour 26 = .ok (.imul, 1) := by decide +kernel
theorem dX11_tellsHour_27 : decode cX11_tellsHour 27 = .ok (.iconst 4, 1) := by decide +kernel
theorem dX11_tellsHour_28 : decode cX11_tellsHour 28 = .ok (.iload_n 3, 1) := by decide +kernel
theorem dX11_tellsHour_29 : decode cX11_tellsHour 29 = .ok (.imul, 1) := by decide +kernel
theorem dX11_tellsHour_30 : decode cX11_tellsHour 30 = .ok (.iadd, 1) := by decide +kernel
theorem dX11_tellsHour_31 : decode cX11_tellsHour 31 = .ok (.iload 7, 2) := by decide +kernel
theorem dX11_tellsHour_33 : decode cX11_tellsHour 33 = .ok (.iadd, 1) := by decide +kernel
theorem dX11_tellsHour_34 : decode cX11_tellsHour 34 = .ok (.iaload, 1) := by decide +kernel
theorem dX11_tellsHour_35 : decode cX11_tellsHour 35 = .ok (.i2l, 1) := by decide +kernel
theorem dX11_tellsHour_36 : decode cX11_tellsHour 36 = .ok (.ladd, 1) := by decide +kernel
theorem dX11_tellsHour_37 : decode cX11_tellsHour 37 = .ok (.lstore 5, 2) := by decide +kernel
theorem dX11_tellsHour_39 : decode cX11_tellsHour 39 = .ok (.iinc 7 1, 3) := by decide +kernel
theorem dX11_tellsHour_42 : decode cX11_tellsHour 42 = .ok (.goto (-36), 3) := by decide +kernel
theorem dX11_tellsHour_45 : decode cX11_tellsHour 45 = .ok (.lload 5, 2) := by decide +kernel
theorem dX11_tellsHour_47 : decode cX11_tellsHour 47 = .ok (.lreturn, 1) := by decide +kernel
theorem dX11_tellsCarter_0 : decode cX11_tellsCarter 0 = .ok (.aload_n 0, 1) := by decide +kernel
theorem dX11_tellsCarter_1 : decode cX11_tellsCarter 1 = .ok (.invokevirtual 215, 3) := by decide +kernel
theorem dX11_tellsCarter_4 : decode cX11_tellsCarter 4 = .ok (.lload_n 1, 1) := by decide +kernel
theorem dX11_tellsCarter_5 : decode cX11_tellsCarter 5 = .ok (.lstore 4, 2) := by decide +kernel
theorem dX11_tellsCarter_7 : decode cX11_tellsCarter 7 = .ok (.iconst 0, 1) := by decide +kernel
theorem dX11_tellsCarter_8 : decode cX11_tellsCarter 8 = .ok (.istore 6, 2) := by decide +kernel
theorem dX11_tellsCarter_10 : decode cX11_tellsCarter 10 = .ok (.iload 6, 2) := by decide +kernel
theorem dX11_tellsCarter_12 : decode cX11_tellsCarter 12 = .ok (.iconst 5, 1) := by decide +kernel
theorem dX11_tellsCarter_13 : decode cX11_tellsCarter 13 = .ok (.if_icmp .ge 30, 3) := by decide +kernel
theorem dX11_tellsCarter_16 : decode cX11_tellsCarter 16 = .ok (.ldc2_w 307, 3) := by decide +kernel
theorem dX11_tellsCarter_19 : decode cX11_tellsCarter 19 = .ok (.lload 4, 2) := by decide +kernel
theorem dX11_tellsCarter_21 : decode cX11_tellsCarter 21 = .ok (.lmul, 1) := by decide +kernel
theorem dX11_tellsCarter_22 : decode cX11_tellsCarter 22 = .ok (.aload_n 0, 1) := by decide +kernel
theorem dX11_tellsCarter_23 : decode cX11_tellsCarter 23 = .ok (.getfield 31, 3) := by decide +kernel
theorem dX11_tellsCarter_26 : decode cX11_tellsCarter 26 = .ok (.iconst 5, 1) := by decide +kernel
theorem dX11_tellsCarter_27 : decode cX11_tellsCarter 27 = .ok (.iload_n 3, 1) := by decide +kernel
theorem dX11_tellsCarter_28 : decode cX11_tellsCarter 28 = .ok (.imul, 1) := by decide +kernel
theorem dX11_tellsCarter_29 : decode cX11_tellsCarter 29 = .ok (.iload 6, 2) := by decide +kernel
theorem dX11_tellsCarter_31 : decode cX11_tellsCarter 31 = .ok (.iadd, 1) := by decide +kernel
theorem dX11_tellsCarter_32 : decode cX11_tellsCarter 32 = .ok (.iaload, 1) := by decide +kernel
theorem dX11_tellsCarter_33 : decode cX11_tellsCarter 33 = .ok (.i2l, 1) := by decide +kernel
theorem dX11_tellsCarter_34 : decode cX11_tellsCarter 34 = .ok (.ladd, 1) := by decide +kernel
theorem dX11_tellsCarter_35 : decode cX11_tellsCarter 35 = .ok (.lstore 4, 2) := by decide +kernel
theorem dX11_tellsCarter_37 : decode cX11_tellsCarter 37 = .ok (.iinc 6 1, 3) := by decide +kernel
theorem dX11_tellsCarter_40 : decode cX11_tellsCarter 40 = .ok (.goto (-30), 3) := by decide +kernel
theorem dX11_tellsCarter_43 : decode cX11_tellsCarter 43 = .ok (.aload_n 0, 1) := by decide +kernel
theorem dX11_tellsCarter_44 : decode cX11_tellsCarter 44 = .ok (.aload_n 0, 1) := by decide +kernel
theorem dX11_tellsCarter_45 : decode cX11_tellsCarter 45 = .ok (.aload_n 0, 1) := by decide +kernel
theorem dX11_tellsCarter_46 : decode cX11_tellsCarter 46 = .ok (.aload_n 0, 1) := by decide +kernel
theorem dX11_tellsCarter_47 : decode cX11_tellsCarter 47 = .ok (.lload 4, 2) := by decide +kernel
theorem dX11_tellsCarter_49 : decode cX11_tellsCarter 49 = .ok (.iload_n 3, 1) := by decide +kernel
theorem dX11_tellsCarter_50 : decode cX11_tellsCarter 50 = .ok (.iconst 0, 1) := by decide +kernel
theorem dX11_tellsCarter_51 : decode cX11_tellsCarter 51 = .ok (.invokevirtual 309, 3) := by decide +kernel
theorem dX11_tellsCarter_54 : decode cX11_tellsCarter 54 = .ok (.iload_n 3, 1) := by decide +kernel
theorem dX11_tellsCarter_55 : decode cX11_tellsCarter 55 = .ok (.iconst 5, 1) := by decide +kernel
theorem dX11_tellsCarter_56 : decode cX11_tellsCarter 56 = .ok (.invokevirtual 309, 3) := by decide +kernel
theorem dX11_tellsCarter_59 : decode cX11_tellsCarter 59 = .ok (.iload_n 3, 1) := by decide +kernel
theorem dX11_tellsCarter_60 : decode cX11_tellsCarter 60 = .ok (.bipush 15, 2) := by decide +kernel
theorem dX11_tellsCarter_62 : decode cX11_tellsCarter 62 = .ok (.invokevirtual 309, 3) := by decide +kernel
theorem dX11_tellsCarter_65 : decode cX11_tellsCarter 65 = .ok (.iload_n 3, 1) := by decide +kernel
theorem dX11_tellsCarter_66 : decode cX11_tellsCarter 66 = .ok (.bipush 39, 2) := by decide +kernel
theorem dX11_tellsCarter_68 : decode cX11_tellsCarter 68 = .ok (.invokevirtual 309, 3) := by decide +kernel
theorem dX11_tellsCarter_71 : decode cX11_tellsCarter 71 = .ok (.lstore 4, 2) := by decide +kernel
theorem dX11_tellsCarter_73 : decode cX11_tellsCarter 73 = .ok (.ldc2_w 307, 3) := by decide +kernel
theorem dX11_tellsCarter_76 : decode cX11_tellsCarter 76 = .ok (.lload 4, 2) := by decide +kernel
theorem dX11_tellsCarter_78 : decode cX11_tellsCarter 78 = .ok (.lmul, 1) := by decide +kernel
theorem dX11_tellsCarter_79 : decode cX11_tellsCarter 79 = .ok (.aload_n 0, 1) := by decide +kernel
theorem dX11_tellsCarter_80 : decode cX11_tellsCarter 80 = .ok (.getfield 61, 3) := by decide +kernel
theorem dX11_tellsCarter_83 : decode cX11_tellsCarter 83 = .ok (.iload_n 3, 1) := by decide +kernel
theorem dX11_tellsCarter_84 : decode cX11_tellsCarter 84 = .ok (.iaload, 1) := by decide +kernel
theorem dX11_tellsCarter_85 : decode cX11_tellsCarter 85 = .ok (.i2l, 1) := by decide +kernel
theorem dX11_tellsCarter_86 : decode cX11_tellsCarter 86 = .ok (.ladd, 1) := by decide +kernel
theorem dX11_tellsCarter_87 : decode cX11_tellsCarter 87 = .ok (.lstore 4, 2) := by decide +kernel
theorem dX11_tellsCarter_89 : decode cX11_tellsCarter 89 = .ok (.ldc2_w 307, 3) := by decide +kernel
theorem dX11_tellsCarter_92 : decode cX11_tellsCarter 92 = .ok (.lload 4, 2) := by decide +kernel
theorem dX11_tellsCarter_94 : decode cX11_tellsCarter 94 = .ok (.lmul, 1) := by decide +kernel
theorem dX11_tellsCarter_95 : decode cX11_tellsCarter 95 = .ok (.aload_n 0, 1) := by decide +kernel
theorem dX11_tellsCarter_96 : decode cX11_tellsCarter 96 = .ok (.iload_n 3, 1) := by decide +kernel
theorem dX11_tellsCarter_97 : decode cX11_tellsCarter 97 = .ok (.invokevirtual 238, 3) := by decide +kernel
theorem dX11_tellsCarter_100 : decode cX11_tellsCarter 100 = .ok (.i2l, 1) := by decide +kernel
theorem dX11_tellsCarter_101 : decode cX11_tellsCarter 101 = .ok (.ladd, 1) := by decide +kernel
theorem dX11_tellsCarter_102 : decode cX11_tellsCarter 102 = .ok (.lstore 4, 2) := by decide +kernel
theorem dX11_tellsCarter_104 : decode cX11_tellsCarter 104 = .ok (.ldc2_w 307, 3) := by decide +kernel
theorem dX11_tellsCarter_107 : decode cX11_tellsCarter 107 = .ok (.lload 4, 2) := by decide +kernel
theorem dX11_tellsCarter_109 : decode cX11_tellsCarter 109 = .ok (.lmul, 1) := by decide +kernel
theorem dX11_tellsCarter_110 : decode cX11_tellsCarter 110 = .ok (.aload_n 0, 1) := by decide +kernel
theorem dX11_tellsCarter_111 : decode cX11_tellsCarter 111 = .ok (.iload_n 3, 1) := by decide +kernel
theorem dX11_tellsCarter_112 : decode cX11_tellsCarter 112 = .ok (.iconst 0, 1) := by decide +kernel
theorem dX11_tellsCarter_113 : decode cX11_tellsCarter 113 = .ok (.invokevirtual 250, 3) := by decide +kernel
theorem dX11_tellsCarter_116 : decode cX11_tellsCarter 116 = .ok (.i2l, 1) := by decide +kernel
theorem dX11_tellsCarter_117 : decode cX11_tellsCarter 117 = .ok (.ladd, 1) := by decide +kernel
theorem dX11_tellsCarter_118 : decode cX11_tellsCarter 118 = .ok (.lstore 4, 2) := by decide +kernel
theorem dX11_tellsCarter_120 : decode cX11_tellsCarter 120 = .ok (.ldc2_w 307, 3) := by decide +kernel
theorem dX11_tellsCarter_123 : decode cX11_tellsCarter 123 = .ok (.lload 4, 2) := by decide +kernel
theorem dX11_tellsCarter_125 : decode cX11_tellsCarter 125 = .ok (.lmul, 1) := by decide +kernel
theorem dX11_tellsCarter_126 : decode cX11_tellsCarter 126 = .ok (.aload_n 0, 1) := by decide +kernel
theorem dX11_tellsCarter_127 : decode cX11_tellsCarter 127 = .ok (.iload_n 3, 1) := by decide +kernel
theorem dX11_tellsCarter_128 : decode cX11_tellsCarter 128 = .ok (.iconst 1, 1) := by decide +kernel
theorem dX11_tellsCarter_129 : decode cX11_tellsCarter 129 = .ok (.invokevirtual 250, 3) := by decide +kernel
theorem dX11_tellsCarter_132 : decode cX11_tellsCarter 132 = .ok (.i2l, 1) := by decide +kernel
theorem dX11_tellsCarter_133 : decode cX11_tellsCarter 133 = .ok (.ladd, 1) := by decide +kernel
theorem dX11_tellsCarter_134 : decode cX11_tellsCarter 134 = .ok (.lstore 4, 2) := by decide +kernel
theorem dX11_tellsCarter_136 : decode cX11_tellsCarter 136 = .ok (.ldc2_w 307, 3) := by decide +kernel
theorem dX11_tellsCarter_139 : decode cX11_tellsCarter 139 = .ok (.lload 4, 2) := by decide +kernel
theorem dX11_tellsCarter_141 : decode cX11_tellsCarter 141 = .ok (.lmul, 1) := by decide +kernel
theorem dX11_tellsCarter_142 : decode cX11_tellsCarter 142 = .ok (.aload_n 0, 1) := by decide +kernel
theorem dX11_tellsCarter_143 : decode cX11_tellsCarter 143 = .ok (.iload_n 3, 1) := by decide +kernel
theorem dX11_tellsCarter_144 : decode cX11_tellsCarter 144 = .ok (.invokevirtual 268, 3) := by decide +kernel
theorem dX11_tellsCarter_147 : decode cX11_tellsCarter 147 = .ok (.i2l, 1) := by decide +kernel
theorem dX11_tellsCarter_148 : decode cX11_tellsCarter 148 = .ok (.ladd, 1) := by decide +kernel
theorem dX11_tellsCarter_149 : decode cX11_tellsCarter 149 = .ok (.lstore 4, 2) := by decide +kernel
theorem dX11_tellsCarter_151 : decode cX11_tellsCarter 151 = .ok (.iconst 0, 1) := by decide +kernel
theorem dX11_tellsCarter_152 : decode cX11_tellsCarter 152 = .ok (.istore 6, 2) := by decide +kernel
theorem dX11_tellsCarter_154 : decode cX11_tellsCarter 154 = .ok (.iload 6, 2) := by decide +kernel
theorem dX11_tellsCarter_156 : decode cX11_tellsCarter 156 = .ok (.iconst 3, 1) := by decide +kernel
theorem dX11_tellsCarter_157 : decode cX11_tellsCarter 157 = .ok (.if_icmp .ge 26, 3) := by decide +kernel
theorem dX11_tellsCarter_160 : decode cX11_tellsCarter 160 = .ok (.ldc2_w 307, 3) := by decide +kernel
theorem dX11_tellsCarter_163 : decode cX11_tellsCarter 163 = .ok (.lload 4, 2) := by decide +kernel
theorem dX11_tellsCarter_165 : decode cX11_tellsCarter 165 = .ok (.lmul, 1) := by decide +kernel
theorem dX11_tellsCarter_166 : decode cX11_tellsCarter 166 = .ok (.aload_n 0, 1) := by decide +kernel
theorem dX11_tellsCarter_167 : decode cX11_tellsCarter 167 = .ok (.iload_n 3, 1) := by decide +kernel
theorem dX11_tellsCarter_168 : decode cX11_tellsCarter 168 = .ok (.iload 6, 2) := by decide +kernel
theorem dX11_tellsCarter_170 : decode cX11_tellsCarter 170 = .ok (.invokevirtual 271, 3) := by decide +kernel
theorem dX11_tellsCarter_173 : decode cX11_tellsCarter 173 = .ok (.i2l, 1) := by decide +kernel
theorem dX11_tellsCarter_174 : decode cX11_tellsCarter 174 = .ok (.ladd, 1) := by decide +kernel
theorem dX11_tellsCarter_175 : decode cX11_tellsCarter 175 = .ok (.lstore 4, 2) := by decide +kernel
theorem dX11_tellsCarter_177 : decode cX11_tellsCarter 177 = .ok (.iinc 6 1, 3) := by decide +kernel
theorem dX11_tellsCarter_180 : decode cX11_tellsCarter 180 = .ok (.goto (-26), 3) := by decide +kernel
theorem dX11_tellsCarter_183 : decode cX11_tellsCarter 183 = .ok (.ldc2_w 307, 3) := by decide +kernel
theorem dX11_tellsCarter_186 : decode cX11_tellsCarter 186 = .ok (.lload 4, 2) := by decide +kernel
theorem dX11_tellsCarter_188 : decode cX11_tellsCarter 188 = .ok (.lmul, 1) := by decide +kernel
theorem dX11_tellsCarter_189 : decode cX11_tellsCarter 189 = .ok (.aload_n 0, 1) := by decide +kernel
theorem dX11_tellsCarter_190 : decode cX11_tellsCarter 190 = .ok (.iload_n 3, 1) := by decide +kernel
theorem dX11_tellsCarter_191 : decode cX11_tellsCarter 191 = .ok (.invokevirtual 277, 3) := by decide +kernel
theorem dX11_tellsCarter_194 : decode cX11_tellsCarter 194 = .ok (.i2l, 1) := by decide +kernel
theorem dX11_tellsCarter_195 : decode cX11_tellsCarter 195 = .ok (.ladd, 1) := by decide +kernel
theorem dX11_tellsCarter_196 : decode cX11_tellsCarter 196 = .ok (.lstore 4, 2) := by decide +kernel
theorem dX11_tellsCarter_198 : decode cX11_tellsCarter 198 = .ok (.ldc2_w 307, 3) := by decide +kernel
theorem dX11_tellsCarter_201 : decode cX11_tellsCarter 201 = .ok (.lload 4, 2) := by decide +kernel
theorem dX11_tellsCarter_203 : decode cX11_tellsCarter 203 = .ok (.lmul, 1) := by decide +kernel
theorem dX11_tellsCarter_204 : decode cX11_tellsCarter 204 = .ok (.aload_n 0, 1) := by decide +kernel
theorem dX11_tellsCarter_205 : decode cX11_tellsCarter 205 = .ok (.iconst 5, 1) := by decide +kernel
theorem dX11_tellsCarter_206 : decode cX11_tellsCarter 206 = .ok (.iload_n 3, 1) := by decide +kernel
theorem dX11_tellsCarter_207 : decode cX11_tellsCarter 207 = .ok (.iconst 0, 1) := by decide +kernel
theorem dX11_tellsCarter_208 : decode cX11_tellsCarter 208 = .ok (.invokevirtual 286, 3) := by decide +kernel
theorem dX11_tellsCarter_211 : decode cX11_tellsCarter 211 = .ok (.ladd, 1) := by decide +kernel
theorem dX11_tellsCarter_212 : decode cX11_tellsCarter 212 = .ok (.lstore 4, 2) := by decide +kernel
theorem dX11_tellsCarter_214 : decode cX11_tellsCarter 214 = .ok (.ldc2_w 307, 3) := by decide +kernel
theorem dX11_tellsCarter_217 : decode cX11_tellsCarter 217 = .ok (.lload 4, 2) := by decide +kernel
theorem dX11_tellsCarter_219 : decode cX11_tellsCarter 219 = .ok (.lmul, 1) := by decide +kernel
theorem dX11_tellsCarter_220 : decode cX11_tellsCarter 220 = .ok (.aload_n 0, 1) := by decide +kernel
theorem dX11_tellsCarter_221 : decode cX11_tellsCarter 221 = .ok (.iconst 5, 1) := by decide +kernel
theorem dX11_tellsCarter_222 : decode cX11_tellsCarter 222 = .ok (.iload_n 3, 1) := by decide +kernel
theorem dX11_tellsCarter_223 : decode cX11_tellsCarter 223 = .ok (.iconst 1, 1) := by decide +kernel
theorem dX11_tellsCarter_224 : decode cX11_tellsCarter 224 = .ok (.invokevirtual 286, 3) := by decide +kernel
theorem dX11_tellsCarter_227 : decode cX11_tellsCarter 227 = .ok (.ladd, 1) := by decide +kernel
theorem dX11_tellsCarter_228 : decode cX11_tellsCarter 228 = .ok (.lreturn, 1) := by decide +kernel
theorem dX11_digest_0 : decode cX11_digest 0 = .ok (.ldc2_w 313, 3) := by decide +kernel
theorem dX11_digest_3 : decode cX11_digest 3 = .ok (.lstore_n 1, 1) := by decide +kernel
theorem dX11_digest_4 : decode cX11_digest 4 = .ok (.iconst 0, 1) := by decide +kernel
theorem dX11_digest_5 : decode cX11_digest 5 = .ok (.istore_n 3, 1) := by decide +kernel
theorem dX11_digest_6 : decode cX11_digest 6 = .ok (.iload_n 3, 1) := by decide +kernel
theorem dX11_digest_7 : decode cX11_digest 7 = .ok (.bipush 8, 2) := by decide +kernel
theorem dX11_digest_9 : decode cX11_digest 9 = .ok (.if_icmp .ge 22, 3) := by decide +kernel
theorem dX11_digest_12 : decode cX11_digest 12 = .ok (.ldc2_w 307, 3) := by decide +kernel
theorem dX11_digest_15 : decode cX11_digest 15 = .ok (.lload_n 1, 1) := by decide +kernel
theorem dX11_digest_16 : decode cX11_digest 16 = .ok (.lmul, 1) := by decide +kernel
theorem dX11_digest_17 : decode cX11_digest 17 = .ok (.aload_n 0, 1) := by decide +kernel
theorem dX11_digest_18 : decode cX11_digest 18 = .ok (.iload_n 3, 1) := by decide +kernel
theorem dX11_digest_19 : decode cX11_digest 19 = .ok (.invokevirtual 315, 3) := by decide +kernel
theorem dX11_digest_22 : decode cX11_digest 22 = .ok (.i2l, 1) := by decide +kernel
theorem dX11_digest_23 : decode cX11_digest 23 = .ok (.ladd, 1) := by decide +kernel
theorem dX11_digest_24 : decode cX11_digest 24 = .ok (.lstore_n 1, 1) := by decide +kernel
theorem dX11_digest_25 : decode cX11_digest 25 = .ok (.iinc 3 1, 3) := by decide +kernel
theorem dX11_digest_28 : decode cX11_digest 28 = .ok (.goto (-22), 3) := by decide +kernel
theorem dX11_digest_31 : decode cX11_digest 31 = .ok (.ldc2_w 307, 3) := by decide +kernel
theorem dX11_digest_34 : decode cX11_digest 34 = .ok (.lload_n 1, 1) := by decide +kernel
theorem dX11_digest_35 : decode cX11_digest 35 = .ok (.lmul, 1) := by decide +kernel
theorem dX11_digest_36 : decode cX11_digest 36 = .ok (.aload_n 0, 1) := by decide +kernel
theorem dX11_digest_37 : decode cX11_digest 37 = .ok (.iconst 0, 1) := by decide +kernel
theorem dX11_digest_38 : decode cX11_digest 38 = .ok (.invokevirtual 146, 3) := by decide +kernel
theorem dX11_digest_41 : decode cX11_digest 41 = .ok (.i2l, 1) := by decide +kernel
theorem dX11_digest_42 : decode cX11_digest 42 = .ok (.ladd, 1) := by decide +kernel
theorem dX11_digest_43 : decode cX11_digest 43 = .ok (.lstore_n 1, 1) := by decide +kernel
theorem dX11_digest_44 : decode cX11_digest 44 = .ok (.ldc2_w 307, 3) := by decide +kernel
theorem dX11_digest_47 : decode cX11_digest 47 = .ok (.lload_n 1, 1) := by decide +kernel
theorem dX11_digest_48 : decode cX11_digest 48 = .ok (.lmul, 1) := by decide +kernel
theorem dX11_digest_49 : decode cX11_digest 49 = .ok (.aload_n 0, 1) := by decide +kernel
theorem dX11_digest_50 : decode cX11_digest 50 = .ok (.iconst 1, 1) := by decide +kernel
theorem dX11_digest_51 : decode cX11_digest 51 = .ok (.invokevirtual 146, 3) := by decide +kernel
theorem dX11_digest_54 : decode cX11_digest 54 = .ok (.i2l, 1) := by decide +kernel
theorem dX11_digest_55 : decode cX11_digest 55 = .ok (.ladd, 1) := by decide +kernel
theorem dX11_digest_56 : decode cX11_digest 56 = .ok (.lstore_n 1, 1) := by decide +kernel
theorem dX11_digest_57 : decode cX11_digest 57 = .ok (.iconst 0, 1) := by decide +kernel
theorem dX11_digest_58 : decode cX11_digest 58 = .ok (.istore_n 3, 1) := by decide +kernel
theorem dX11_digest_59 : decode cX11_digest 59 = .ok (.iload_n 3, 1) := by decide +kernel
theorem dX11_digest_60 : decode cX11_digest 60 = .ok (.iconst 4, 1) := by decide +kernel
theorem dX11_digest_61 : decode cX11_digest 61 = .ok (.aload_n 0, 1) := by decide +kernel
theorem dX11_digest_62 : decode cX11_digest 62 = .ok (.getfield 127, 3) := by decide +kernel
theorem dX11_digest_65 : decode cX11_digest 65 = .ok (.imul, 1) := by decide +kernel
theorem dX11_digest_66 : decode cX11_digest 66 = .ok (.if_icmp .ge 23, 3) := by decide +kernel
theorem dX11_digest_69 : decode cX11_digest 69 = .ok (.ldc2_w 307, 3) := by decide +kernel
theorem dX11_digest_72 : decode cX11_digest 72 = .ok (.lload_n 1, 1) := by decide +kernel
theorem dX11_digest_73 : decode cX11_digest 73 = .ok (.lmul, 1) := by decide +kernel
theorem dX11_digest_74 : decode cX11_digest 74 = .ok (.aload_n 0, 1) := by decide +kernel
theorem dX11_digest_75 : decode cX11_digest 75 = .ok (.getfield 28, 3) := by decide +kernel
theorem dX11_digest_78 : decode cX11_digest 78 = .ok (.iload_n 3, 1) := by decide +kernel
theorem dX11_digest_79 : decode cX11_digest 79 = .ok (.iaload, 1) := by decide +kernel
theorem dX11_digest_80 : decode cX11_digest 80 = .ok (.i2l, 1) := by decide +kernel
theorem dX11_digest_81 : decode cX11_digest 81 = .ok (.ladd, 1) := by decide +kernel
theorem dX11_digest_82 : decode cX11_digest 82 = .ok (.lstore_n 1, 1) := by decide +kernel
theorem dX11_digest_83 : decode cX11_digest 83 = .ok (.iinc 3 1, 3) := by decide +kernel
theorem dX11_digest_86 : decode cX11_digest 86 = .ok (.goto (-27), 3) := by decide +kernel
theorem dX11_digest_89 : decode cX11_digest 89 = .ok (.iconst 0, 1) := by decide +kernel
theorem dX11_digest_90 : decode cX11_digest 90 = .ok (.istore_n 3, 1) := by decide +kernel
theorem dX11_digest_91 : decode cX11_digest 91 = .ok (.iload_n 3, 1) := by decide +kernel
theorem dX11_digest_92 : decode cX11_digest 92 = .ok (.bipush 8, 2) := by decide +kernel
theorem dX11_digest_94 : decode cX11_digest 94 = .ok (.if_icmp .ge 37, 3) := by decide +kernel
theorem dX11_digest_97 : decode cX11_digest 97 = .ok (.ldc2_w 307, 3) := by decide +kernel
theorem dX11_digest_100 : decode cX11_digest 100 = .ok (.lload_n 1, 1) := by decide +kernel
theorem dX11_digest_101 : decode cX11_digest 101 = .ok (.lmul, 1) := by decide +kernel
theorem dX11_digest_102 : decode cX11_digest 102 = .ok (.aload_n 0, 1) := by decide +kernel
theorem dX11_digest_103 : decode cX11_digest 103 = .ok (.iconst 0, 1) := by decide +kernel
theorem dX11_digest_104 : decode cX11_digest 104 = .ok (.iload_n 3, 1) := by decide +kernel
theorem dX11_digest_105 : decode cX11_digest 105 = .ok (.invokevirtual 221, 3) := by decide +kernel
theorem dX11_digest_108 : decode cX11_digest 108 = .ok (.i2l, 1) := by decide +kernel
theorem dX11_digest_109 : decode cX11_digest 109 = .ok (.ladd, 1) := by decide +kernel
theorem dX11_digest_110 : decode cX11_digest 110 = .ok (.lstore_n 1, 1) := by decide +kernel
theorem dX11_digest_111 : decode cX11_digest 111 = .ok (.ldc2_w 307, 3) := by decide +kernel
theorem dX11_digest_114 : decode cX11_digest 114 = .ok (.lload_n 1, 1) := by decide +kernel
theorem dX11_digest_115 : decode cX11_digest 115 = .ok (.lmul, 1) := by decide +kernel
theorem dX11_digest_116 : decode cX11_digest 116 = .ok (.aload_n 0, 1) := by decide +kernel
theorem dX11_digest_117 : decode cX11_digest 117 = .ok (.iload_n 3, 1) := by decide +kernel
theorem dX11_digest_118 : decode cX11_digest 118 = .ok (.iconst 3, 1) := by decide +kernel
theorem dX11_digest_119 : decode cX11_digest 119 = .ok (.invokevirtual 221, 3) := by decide +kernel
theorem dX11_digest_122 : decode cX11_digest 122 = .ok (.i2l, 1) := by decide +kernel
theorem dX11_digest_123 : decode cX11_digest 123 = .ok (.ladd, 1) := by decide +kernel
theorem dX11_digest_124 : decode cX11_digest 124 = .ok (.lstore_n 1, 1) := by decide +kernel
theorem dX11_digest_125 : decode cX11_digest 125 = .ok (.iinc 3 1, 3) := by decide +kernel
theorem dX11_digest_128 : decode cX11_digest 128 = .ok (.goto (-37), 3) := by decide +kernel
theorem dX11_digest_131 : decode cX11_digest 131 = .ok (.iconst 0, 1) := by decide +kernel
theorem dX11_digest_132 : decode cX11_digest 132 = .ok (.istore_n 3, 1) := by decide +kernel
theorem dX11_digest_133 : decode cX11_digest 133 = .ok (.iload_n 3, 1) := by decide +kernel
theorem dX11_digest_134 : decode cX11_digest 134 = .ok (.aload_n 0, 1) := by decide +kernel
theorem dX11_digest_135 : decode cX11_digest 135 = .ok (.getfield 133, 3) := by decide +kernel
theorem dX11_digest_138 : decode cX11_digest 138 = .ok (.if_icmp .ge 16, 3) := by decide +kernel
theorem dX11_digest_141 : decode cX11_digest 141 = .ok (.aload_n 0, 1) := by decide +kernel
theorem dX11_digest_142 : decode cX11_digest 142 = .ok (.lload_n 1, 1) := by decide +kernel
end
section
theorem dX11_digest_143 : decode cX11_digest 143 = .ok (.iload_n 3, 1) := by decide +kernel
theorem dX11_digest_144 : decode cX11_digest 144 = .ok (.invokevirtual 318, 3) := by decide +kernel
theorem dX11_digest_147 : decode cX11_digest 147 = .ok (.lstore_n 1, 1) := by decide +kernel
theorem dX11_digest_148 : decode cX11_digest 148 = .ok (.iinc 3 1, 3) := by decide +kernel
theorem dX11_digest_151 : decode cX11_digest 151 = .ok (.goto (-18), 3) := by decide +kernel
theorem dX11_digest_154 : decode cX11_digest 154 = .ok (.aload_n 0, 1) := by decide +kernel
theorem dX11_digest_155 : decode cX11_digest 155 = .ok (.invokevirtual 215, 3) := by decide +kernel
theorem dX11_digest_158 : decode cX11_digest 158 = .ok (.iconst 2, 1) := by decide +kernel
theorem dX11_digest_159 : decode cX11_digest 159 = .ok (.istore_n 3, 1) := by decide +kernel
theorem dX11_digest_160 : decode cX11_digest 160 = .ok (.iload_n 3, 1) := by decide +kernel
theorem dX11_digest_161 : decode cX11_digest 161 = .ok (.bipush 6, 2) := by decide +kernel
theorem dX11_digest_163 : decode cX11_digest 163 = .ok (.if_icmp .ge 22, 3) := by decide +kernel
theorem dX11_digest_166 : decode cX11_digest 166 = .ok (.ldc2_w 307, 3) := by decide +kernel
theorem dX11_digest_169 : decode cX11_digest 169 = .ok (.lload_n 1, 1) := by decide +kernel
theorem dX11_digest_170 : decode cX11_digest 170 = .ok (.lmul, 1) := by decide +kernel
theorem dX11_digest_171 : decode cX11_digest 171 = .ok (.aload_n 0, 1) := by decide +kernel
theorem dX11_digest_172 : decode cX11_digest 172 = .ok (.iload_n 3, 1) := by decide +kernel
theorem dX11_digest_173 : decode cX11_digest 173 = .ok (.invokevirtual 226, 3) := by decide +kernel
theorem dX11_digest_176 : decode cX11_digest 176 = .ok (.i2l, 1) := by decide +kernel
theorem dX11_digest_177 : decode cX11_digest 177 = .ok (.ladd, 1) := by decide +kernel
theorem dX11_digest_178 : decode cX11_digest 178 = .ok (.lstore_n 1, 1) := by decide +kernel
theorem dX11_digest_179 : decode cX11_digest 179 = .ok (.iinc 3 1, 3) := by decide +kernel
theorem dX11_digest_182 : decode cX11_digest 182 = .ok (.goto (-22), 3) := by decide +kernel
theorem dX11_digest_185 : decode cX11_digest 185 = .ok (.ldc2_w 307, 3) := by decide +kernel
theorem dX11_digest_188 : decode cX11_digest 188 = .ok (.lload_n 1, 1) := by decide +kernel
theorem dX11_digest_189 : decode cX11_digest 189 = .ok (.lmul, 1) := by decide +kernel
theorem dX11_digest_190 : decode cX11_digest 190 = .ok (.aload_n 0, 1) := by decide +kernel
theorem dX11_digest_191 : decode cX11_digest 191 = .ok (.getfield 195, 3) := by decide +kernel
theorem dX11_digest_194 : decode cX11_digest 194 = .ok (.i2l, 1) := by decide +kernel
theorem dX11_digest_195 : decode cX11_digest 195 = .ok (.ladd, 1) := by decide +kernel
theorem dX11_digest_196 : decode cX11_digest 196 = .ok (.lstore_n 1, 1) := by decide +kernel
theorem dX11_digest_197 : decode cX11_digest 197 = .ok (.ldc2_w 307, 3) := by decide +kernel
theorem dX11_digest_200 : decode cX11_digest 200 = .ok (.lload_n 1, 1) := by decide +kernel
theorem dX11_digest_201 : decode cX11_digest 201 = .ok (.lmul, 1) := by decide +kernel
theorem dX11_digest_202 : decode cX11_digest 202 = .ok (.aload_n 0, 1) := by decide +kernel
theorem dX11_digest_203 : decode cX11_digest 203 = .ok (.getfield 198, 3) := by decide +kernel
theorem dX11_digest_206 : decode cX11_digest 206 = .ok (.i2l, 1) := by decide +kernel
theorem dX11_digest_207 : decode cX11_digest 207 = .ok (.ladd, 1) := by decide +kernel
theorem dX11_digest_208 : decode cX11_digest 208 = .ok (.lstore_n 1, 1) := by decide +kernel
theorem dX11_digest_209 : decode cX11_digest 209 = .ok (.ldc2_w 307, 3) := by decide +kernel
theorem dX11_digest_212 : decode cX11_digest 212 = .ok (.lload_n 1, 1) := by decide +kernel
theorem dX11_digest_213 : decode cX11_digest 213 = .ok (.lmul, 1) := by decide +kernel
theorem dX11_digest_214 : decode cX11_digest 214 = .ok (.aload_n 0, 1) := by decide +kernel
theorem dX11_digest_215 : decode cX11_digest 215 = .ok (.invokevirtual 232, 3) := by decide +kernel
theorem dX11_digest_218 : decode cX11_digest 218 = .ok (.i2l, 1) := by decide +kernel
theorem dX11_digest_219 : decode cX11_digest 219 = .ok (.ladd, 1) := by decide +kernel
theorem dX11_digest_220 : decode cX11_digest 220 = .ok (.lstore_n 1, 1) := by decide +kernel
theorem dX11_digest_221 : decode cX11_digest 221 = .ok (.iconst 0, 1) := by decide +kernel
theorem dX11_digest_222 : decode cX11_digest 222 = .ok (.istore_n 3, 1) := by decide +kernel
theorem dX11_digest_223 : decode cX11_digest 223 = .ok (.iload_n 3, 1) := by decide +kernel
theorem dX11_digest_224 : decode cX11_digest 224 = .ok (.iconst 3, 1) := by decide +kernel
theorem dX11_digest_225 : decode cX11_digest 225 = .ok (.if_icmp .ge 22, 3) := by decide +kernel
theorem dX11_digest_228 : decode cX11_digest 228 = .ok (.ldc2_w 307, 3) := by decide +kernel
theorem dX11_digest_231 : decode cX11_digest 231 = .ok (.lload_n 1, 1) := by decide +kernel
theorem dX11_digest_232 : decode cX11_digest 232 = .ok (.lmul, 1) := by decide +kernel
theorem dX11_digest_233 : decode cX11_digest 233 = .ok (.aload_n 0, 1) := by decide +kernel
theorem dX11_digest_234 : decode cX11_digest 234 = .ok (.iload_n 3, 1) := by decide +kernel
theorem dX11_digest_235 : decode cX11_digest 235 = .ok (.invokevirtual 247, 3) := by decide +kernel
theorem dX11_digest_238 : decode cX11_digest 238 = .ok (.i2l, 1) := by decide +kernel
theorem dX11_digest_239 : decode cX11_digest 239 = .ok (.ladd, 1) := by decide +kernel
theorem dX11_digest_240 : decode cX11_digest 240 = .ok (.lstore_n 1, 1) := by decide +kernel
theorem dX11_digest_241 : decode cX11_digest 241 = .ok (.iinc 3 1, 3) := by decide +kernel
theorem dX11_digest_244 : decode cX11_digest 244 = .ok (.goto (-21), 3) := by decide +kernel
theorem dX11_digest_247 : decode cX11_digest 247 = .ok (.ldc2_w 307, 3) := by decide +kernel
theorem dX11_digest_250 : decode cX11_digest 250 = .ok (.lload_n 1, 1) := by decide +kernel
theorem dX11_digest_251 : decode cX11_digest 251 = .ok (.lmul, 1) := by decide +kernel
theorem dX11_digest_252 : decode cX11_digest 252 = .ok (.aload_n 0, 1) := by decide +kernel
theorem dX11_digest_253 : decode cX11_digest 253 = .ok (.iconst 0, 1) := by decide +kernel
theorem dX11_digest_254 : decode cX11_digest 254 = .ok (.invokevirtual 253, 3) := by decide +kernel
theorem dX11_digest_257 : decode cX11_digest 257 = .ok (.i2l, 1) := by decide +kernel
theorem dX11_digest_258 : decode cX11_digest 258 = .ok (.ladd, 1) := by decide +kernel
theorem dX11_digest_259 : decode cX11_digest 259 = .ok (.lstore_n 1, 1) := by decide +kernel
theorem dX11_digest_260 : decode cX11_digest 260 = .ok (.ldc2_w 307, 3) := by decide +kernel
theorem dX11_digest_263 : decode cX11_digest 263 = .ok (.lload_n 1, 1) := by decide +kernel
theorem dX11_digest_264 : decode cX11_digest 264 = .ok (.lmul, 1) := by decide +kernel
theorem dX11_digest_265 : decode cX11_digest 265 = .ok (.aload_n 0, 1) := by decide +kernel
theorem dX11_digest_266 : decode cX11_digest 266 = .ok (.iconst 1, 1) := by decide +kernel
theorem dX11_digest_267 : decode cX11_digest 267 = .ok (.invokevirtual 253, 3) := by decide +kernel
theorem dX11_digest_270 : decode cX11_digest 270 = .ok (.i2l, 1) := by decide +kernel
theorem dX11_digest_271 : decode cX11_digest 271 = .ok (.ladd, 1) := by decide +kernel
theorem dX11_digest_272 : decode cX11_digest 272 = .ok (.lstore_n 1, 1) := by decide +kernel
theorem dX11_digest_273 : decode cX11_digest 273 = .ok (.ldc2_w 307, 3) := by decide +kernel
theorem dX11_digest_276 : decode cX11_digest 276 = .ok (.lload_n 1, 1) := by decide +kernel
theorem dX11_digest_277 : decode cX11_digest 277 = .ok (.lmul, 1) := by decide +kernel
theorem dX11_digest_278 : decode cX11_digest 278 = .ok (.aload_n 0, 1) := by decide +kernel
theorem dX11_digest_279 : decode cX11_digest 279 = .ok (.invokevirtual 265, 3) := by decide +kernel
theorem dX11_digest_282 : decode cX11_digest 282 = .ok (.i2l, 1) := by decide +kernel
theorem dX11_digest_283 : decode cX11_digest 283 = .ok (.ladd, 1) := by decide +kernel
theorem dX11_digest_284 : decode cX11_digest 284 = .ok (.lstore_n 1, 1) := by decide +kernel
theorem dX11_digest_285 : decode cX11_digest 285 = .ok (.ldc2_w 307, 3) := by decide +kernel
theorem dX11_digest_288 : decode cX11_digest 288 = .ok (.lload_n 1, 1) := by decide +kernel
theorem dX11_digest_289 : decode cX11_digest 289 = .ok (.lmul, 1) := by decide +kernel
theorem dX11_digest_290 : decode cX11_digest 290 = .ok (.aload_n 0, 1) := by decide +kernel
theorem dX11_digest_291 : decode cX11_digest 291 = .ok (.bipush 7, 2) := by decide +kernel
theorem dX11_digest_293 : decode cX11_digest 293 = .ok (.iconst 0, 1) := by decide +kernel
theorem dX11_digest_294 : decode cX11_digest 294 = .ok (.invokevirtual 301, 3) := by decide +kernel
theorem dX11_digest_297 : decode cX11_digest 297 = .ok (.i2l, 1) := by decide +kernel
theorem dX11_digest_298 : decode cX11_digest 298 = .ok (.ladd, 1) := by decide +kernel
theorem dX11_digest_299 : decode cX11_digest 299 = .ok (.lstore_n 1, 1) := by decide +kernel
theorem dX11_digest_300 : decode cX11_digest 300 = .ok (.ldc2_w 307, 3) := by decide +kernel
theorem dX11_digest_303 : decode cX11_digest 303 = .ok (.lload_n 1, 1) := by decide +kernel
theorem dX11_digest_304 : decode cX11_digest 304 = .ok (.lmul, 1) := by decide +kernel
theorem dX11_digest_305 : decode cX11_digest 305 = .ok (.aload_n 0, 1) := by decide +kernel
theorem dX11_digest_306 : decode cX11_digest 306 = .ok (.bipush 7, 2) := by decide +kernel
theorem dX11_digest_308 : decode cX11_digest 308 = .ok (.iconst 1, 1) := by decide +kernel
theorem dX11_digest_309 : decode cX11_digest 309 = .ok (.invokevirtual 301, 3) := by decide +kernel
theorem dX11_digest_312 : decode cX11_digest 312 = .ok (.i2l, 1) := by decide +kernel
theorem dX11_digest_313 : decode cX11_digest 313 = .ok (.ladd, 1) := by decide +kernel
theorem dX11_digest_314 : decode cX11_digest 314 = .ok (.lreturn, 1) := by decide +kernel
theorem dJ6_bitCount_0f7a4_0 : decode cJ6_bitCount_0f7a4 0 = .ok (.iload_n 0, 1) := by decide +kernel
theorem dJ6_bitCount_0f7a4_1 : decode cJ6_bitCount_0f7a4 1 = .ok (.iload_n 0, 1) := by decide +kernel
theorem dJ6_bitCount_0f7a4_2 : decode cJ6_bitCount_0f7a4 2 = .ok (.iconst 1, 1) := by decide +kernel
theorem dJ6_bitCount_0f7a4_3 : decode cJ6_bitCount_0f7a4 3 = .ok (.iushr, 1) := by decide +kernel
theorem dJ6_bitCount_0f7a4_4 : decode cJ6_bitCount_0f7a4 4 = .ok (.ldc_w 265, 3) := by decide +kernel
theorem dJ6_bitCount_0f7a4_7 : decode cJ6_bitCount_0f7a4 7 = .ok (.iand, 1) := by decide +kernel
theorem dJ6_bitCount_0f7a4_8 : decode cJ6_bitCount_0f7a4 8 = .ok (.isub, 1) := by decide +kernel
theorem dJ6_bitCount_0f7a4_9 : decode cJ6_bitCount_0f7a4 9 = .ok (.istore_n 0, 1) := by decide +kernel
theorem dJ6_bitCount_0f7a4_10 : decode cJ6_bitCount_0f7a4 10 = .ok (.iload_n 0, 1) := by decide +kernel
theorem dJ6_bitCount_0f7a4_11 : decode cJ6_bitCount_0f7a4 11 = .ok (.ldc_w 266, 3) := by decide +kernel
theorem dJ6_bitCount_0f7a4_14 : decode cJ6_bitCount_0f7a4 14 = .ok (.iand, 1) := by decide +kernel
theorem dJ6_bitCount_0f7a4_15 : decode cJ6_bitCount_0f7a4 15 = .ok (.iload_n 0, 1) := by decide +kernel
theorem dJ6_bitCount_0f7a4_16 : decode cJ6_bitCount_0f7a4 16 = .ok (.iconst 2, 1) := by decide +kernel
theorem dJ6_bitCount_0f7a4_17 : decode cJ6_bitCount_0f7a4 17 = .ok (.iushr, 1) := by decide +kernel
theorem dJ6_bitCount_0f7a4_18 : decode cJ6_bitCount_0f7a4 18 = .ok (.ldc_w 266, 3) := by decide +kernel
theorem dJ6_bitCount_0f7a4_21 : decode cJ6_bitCount_0f7a4 21 = .ok (.iand, 1) := by decide +kernel
theorem dJ6_bitCount_0f7a4_22 : decode cJ6_bitCount_0f7a4 22 = .ok (.iadd, 1) := by decide +kernel
theorem dJ6_bitCount_0f7a4_23 : decode cJ6_bitCount_0f7a4 23 = .ok (.istore_n 0, 1) := by decide +kernel
theorem dJ6_bitCount_0f7a4_24 : decode cJ6_bitCount_0f7a4 24 = .ok (.iload_n 0, 1) := by decide +kernel
theorem dJ6_bitCount_0f7a4_25 : decode cJ6_bitCount_0f7a4 25 = .ok (.iload_n 0, 1) := by decide +kernel
theorem dJ6_bitCount_0f7a4_26 : decode cJ6_bitCount_0f7a4 26 = .ok (.iconst 4, 1) := by decide +kernel
theorem dJ6_bitCount_0f7a4_27 : decode cJ6_bitCount_0f7a4 27 = .ok (.iushr, 1) := by decide +kernel
theorem dJ6_bitCount_0f7a4_28 : decode cJ6_bitCount_0f7a4 28 = .ok (.iadd, 1) := by decide +kernel
theorem dJ6_bitCount_0f7a4_29 : decode cJ6_bitCount_0f7a4 29 = .ok (.ldc_w 267, 3) := by decide +kernel
theorem dJ6_bitCount_0f7a4_32 : decode cJ6_bitCount_0f7a4 32 = .ok (.iand, 1) := by decide +kernel
theorem dJ6_bitCount_0f7a4_33 : decode cJ6_bitCount_0f7a4 33 = .ok (.istore_n 0, 1) := by decide +kernel
theorem dJ6_bitCount_0f7a4_34 : decode cJ6_bitCount_0f7a4 34 = .ok (.iload_n 0, 1) := by decide +kernel
theorem dJ6_bitCount_0f7a4_35 : decode cJ6_bitCount_0f7a4 35 = .ok (.iload_n 0, 1) := by decide +kernel
theorem dJ6_bitCount_0f7a4_36 : decode cJ6_bitCount_0f7a4 36 = .ok (.bipush 8, 2) := by decide +kernel
theorem dJ6_bitCount_0f7a4_38 : decode cJ6_bitCount_0f7a4 38 = .ok (.iushr, 1) := by decide +kernel
theorem dJ6_bitCount_0f7a4_39 : decode cJ6_bitCount_0f7a4 39 = .ok (.iadd, 1) := by decide +kernel
theorem dJ6_bitCount_0f7a4_40 : decode cJ6_bitCount_0f7a4 40 = .ok (.istore_n 0, 1) := by decide +kernel
theorem dJ6_bitCount_0f7a4_41 : decode cJ6_bitCount_0f7a4 41 = .ok (.iload_n 0, 1) := by decide +kernel
theorem dJ6_bitCount_0f7a4_42 : decode cJ6_bitCount_0f7a4 42 = .ok (.iload_n 0, 1) := by decide +kernel
theorem dJ6_bitCount_0f7a4_43 : decode cJ6_bitCount_0f7a4 43 = .ok (.bipush 16, 2) := by decide +kernel
theorem dJ6_bitCount_0f7a4_45 : decode cJ6_bitCount_0f7a4 45 = .ok (.iushr, 1) := by decide +kernel
theorem dJ6_bitCount_0f7a4_46 : decode cJ6_bitCount_0f7a4 46 = .ok (.iadd, 1) := by decide +kernel
theorem dJ6_bitCount_0f7a4_47 : decode cJ6_bitCount_0f7a4 47 = .ok (.istore_n 0, 1) := by decide +kernel
theorem dJ6_bitCount_0f7a4_48 : decode cJ6_bitCount_0f7a4 48 = .ok (.iload_n 0, 1) := by decide +kernel
theorem dJ6_bitCount_0f7a4_49 : decode cJ6_bitCount_0f7a4 49 = .ok (.bipush 63, 2) := by decide +kernel
theorem dJ6_bitCount_0f7a4_51 : decode cJ6_bitCount_0f7a4 51 = .ok (.iand, 1) := by decide +kernel
theorem dJ6_bitCount_0f7a4_52 : decode cJ6_bitCount_0f7a4 52 = .ok (.ireturn, 1) := by decide +kernel
theorem dJ9_max_7cf53_0 : decode cJ9_max_7cf53 0 = .ok (.iload_n 0, 1) := by decide +kernel
theorem dJ9_max_7cf53_1 : decode cJ9_max_7cf53 1 = .ok (.iload_n 1, 1) := by decide +kernel
theorem dJ9_max_7cf53_2 : decode cJ9_max_7cf53 2 = .ok (.if_icmp .lt 7, 3) := by decide +kernel
theorem dJ9_max_7cf53_5 : decode cJ9_max_7cf53 5 = .ok (.iload_n 0, 1) := by decide +kernel
theorem dJ9_max_7cf53_6 : decode cJ9_max_7cf53 6 = .ok (.goto 4, 3) := by decide +kernel
theorem dJ9_max_7cf53_9 : decode cJ9_max_7cf53 9 = .ok (.iload_n 1, 1) := by decide +kernel
theorem dJ9_max_7cf53_10 : decode cJ9_max_7cf53 10 = .ok (.ireturn, 1) := by decide +kernel
theorem dJ9_min_7cf53_0 : decode cJ9_min_7cf53 0 = .ok (.iload_n 0, 1) := by decide +kernel
theorem dJ9_min_7cf53_1 : decode cJ9_min_7cf53 1 = .ok (.iload_n 1, 1) := by decide +kernel
theorem dJ9_min_7cf53_2 : decode cJ9_min_7cf53 2 = .ok (.if_icmp .gt 7, 3) := by decide +kernel
theorem dJ9_min_7cf53_5 : decode cJ9_min_7cf53 5 = .ok (.iload_n 0, 1) := by decide +kernel
theorem dJ9_min_7cf53_6 : decode cJ9_min_7cf53 6 = .ok (.goto 4, 3) := by decide +kernel
theorem dJ9_min_7cf53_9 : decode cJ9_min_7cf53 9 = .ok (.iload_n 1, 1) := by decide +kernel
theorem dJ9_min_7cf53_10 : decode cJ9_min_7cf53 10 = .ok (.ireturn, 1) := by decide +kernel
theorem dL_law_0 : decode cL_law 0 = .ok (.new 7, 3) := by decide +kernel
theorem dL_law_3 : decode cL_law 3 = .ok (.dup, 1) := by decide +kernel
theorem dL_law_4 : decode cL_law 4 = .ok (.invokespecial 9, 3) := by decide +kernel
theorem dL_law_7 : decode cL_law 7 = .ok (.astore_n 1, 1) := by decide +kernel
theorem dL_law_8 : decode cL_law 8 = .ok (.new 10, 3) := by decide +kernel
theorem dL_law_11 : decode cL_law 11 = .ok (.dup, 1) := by decide +kernel
theorem dL_law_12 : decode cL_law 12 = .ok (.invokespecial 12, 3) := by decide +kernel
theorem dL_law_15 : decode cL_law 15 = .ok (.astore_n 2, 1) := by decide +kernel
theorem dL_law_16 : decode cL_law 16 = .ok (.iconst 0, 1) := by decide +kernel
theorem dL_law_17 : decode cL_law 17 = .ok (.istore_n 3, 1) := by decide +kernel
theorem dL_law_18 : decode cL_law 18 = .ok (.iload_n 3, 1) := by decide +kernel
theorem dL_law_19 : decode cL_law 19 = .ok (.aload_n 0, 1) := by decide +kernel
theorem dL_law_20 : decode cL_law 20 = .ok (.arraylength, 1) := by decide +kernel
theorem dL_law_21 : decode cL_law 21 = .ok (.bipush 6, 2) := by decide +kernel
theorem dL_law_23 : decode cL_law 23 = .ok (.isub, 1) := by decide +kernel
theorem dL_law_24 : decode cL_law 24 = .ok (.if_icmp .gt 1224, 3) := by decide +kernel
theorem dL_law_27 : decode cL_law 27 = .ok (.aload_n 0, 1) := by decide +kernel
theorem dL_law_28 : decode cL_law 28 = .ok (.iload_n 3, 1) := by decide +kernel
theorem dL_law_29 : decode cL_law 29 = .ok (.iaload, 1) := by decide +kernel
theorem dL_law_30 : decode cL_law 30 = .ok (.bipush 63, 2) := by decide +kernel
theorem dL_law_32 : decode cL_law 32 = .ok (.iand, 1) := by decide +kernel
theorem dL_law_33 : decode cL_law 33 = .ok (.tableswitch 1209 0 35 #[159, 192, 215, 238, 261, 294, 327, 360, 393, 406, 429, 472, 495, 528, 551, 574, 587, 610, 633, 666, 689, 732, 745, 758, 781, 814, 837, 881, 914, 957, 980, 1033, 1076, 1139, 1172, 1195], 159) := by decide +kernel
theorem dL_law_192 : decode cL_law 192 = .ok (.aload_n 1, 1) := by decide +kernel
theorem dL_law_193 : decode cL_law 193 = .ok (.aload_n 0, 1) := by decide +kernel
theorem dL_law_194 : decode cL_law 194 = .ok (.iload_n 3, 1) := by decide +kernel
theorem dL_law_195 : decode cL_law 195 = .ok (.iconst 1, 1) := by decide +kernel
theorem dL_law_196 : decode cL_law 196 = .ok (.iadd, 1) := by decide +kernel
theorem dL_law_197 : decode cL_law 197 = .ok (.iaload, 1) := by decide +kernel
theorem dL_law_198 : decode cL_law 198 = .ok (.aload_n 0, 1) := by decide +kernel
theorem dL_law_199 : decode cL_law 199 = .ok (.iload_n 3, 1) := by decide +kernel
theorem dL_law_200 : decode cL_law 200 = .ok (.iconst 2, 1) := by decide +kernel
theorem dL_law_201 : decode cL_law 201 = .ok (.iadd, 1) := by decide +kernel
theorem dL_law_202 : decode cL_law 202 = .ok (.iaload, 1) := by decide +kernel
theorem dL_law_203 : decode cL_law 203 = .ok (.invokevirtual 13, 3) := by decide +kernel
theorem dL_law_206 : decode cL_law 206 = .ok (.aload_n 2, 1) := by decide +kernel
theorem dL_law_207 : decode cL_law 207 = .ok (.aload_n 0, 1) := by decide +kernel
theorem dL_law_208 : decode cL_law 208 = .ok (.iload_n 3, 1) := by decide +kernel
theorem dL_law_209 : decode cL_law 209 = .ok (.iconst 1, 1) := by decide +kernel
theorem dL_law_210 : decode cL_law 210 = .ok (.iadd, 1) := by decide +kernel
theorem dL_law_211 : decode cL_law 211 = .ok (.iaload, 1) := by decide +kernel
theorem dL_law_212 : decode cL_law 212 = .ok (.aload_n 0, 1) := by decide +kernel
theorem dL_law_213 : decode cL_law 213 = .ok (.iload_n 3, 1) := by decide +kernel
theorem dL_law_214 : decode cL_law 214 = .ok (.iconst 2, 1) := by decide +kernel
theorem dL_law_215 : decode cL_law 215 = .ok (.iadd, 1) := by decide +kernel
theorem dL_law_216 : decode cL_law 216 = .ok (.iaload, 1) := by decide +kernel
theorem dL_law_217 : decode cL_law 217 = .ok (.invokevirtual 17, 3) := by decide +kernel
theorem dL_law_220 : decode cL_law 220 = .ok (.if_icmp .eq 1022, 3) := by decide +kernel
theorem dL_law_223 : decode cL_law 223 = .ok (.iconst 0, 1) := by decide +kernel
theorem dL_law_224 : decode cL_law 224 = .ok (.ireturn, 1) := by decide +kernel
theorem dL_law_225 : decode cL_law 225 = .ok (.aload_n 1, 1) := by decide +kernel
theorem dL_law_226 : decode cL_law 226 = .ok (.aload_n 0, 1) := by decide +kernel
theorem dL_law_227 : decode cL_law 227 = .ok (.iload_n 3, 1) := by decide +kernel
theorem dL_law_228 : decode cL_law 228 = .ok (.iconst 1, 1) := by decide +kernel
theorem dL_law_229 : decode cL_law 229 = .ok (.iadd, 1) := by decide +kernel
theorem dL_law_230 : decode cL_law 230 = .ok (.iaload, 1) := by decide +kernel
theorem dL_law_231 : decode cL_law 231 = .ok (.invokevirtual 18, 3) := by decide +kernel
theorem dL_law_234 : decode cL_law 234 = .ok (.aload_n 2, 1) := by decide +kernel
theorem dL_law_235 : decode cL_law 235 = .ok (.aload_n 0, 1) := by decide +kernel
theorem dL_law_236 : decode cL_law 236 = .ok (.iload_n 3, 1) := by decide +kernel
theorem dL_law_237 : decode cL_law 237 = .ok (.iconst 1, 1) := by decide +kernel
theorem dL_law_238 : decode cL_law 238 = .ok (.iadd, 1) := by decide +kernel
theorem dL_law_239 : decode cL_law 239 = .ok (.iaload, 1) := by decide +kernel
theorem dL_law_240 : decode cL_law 240 = .ok (.invokevirtual 22, 3) := by decide +kernel
theorem dL_law_243 : decode cL_law 243 = .ok (.if_icmp .eq 999, 3) := by decide +kernel
theorem dL_law_246 : decode cL_law 246 = .ok (.iconst 0, 1) := by decide +kernel
theorem dL_law_247 : decode cL_law 247 = .ok (.ireturn, 1) := by decide +kernel
theorem dL_law_248 : decode cL_law 248 = .ok (.aload_n 1, 1) := by decide +kernel
theorem dL_law_249 : decode cL_law 249 = .ok (.aload_n 0, 1) := by decide +kernel
theorem dL_law_250 : decode cL_law 250 = .ok (.iload_n 3, 1) := by decide +kernel
theorem dL_law_251 : decode cL_law 251 = .ok (.iconst 1, 1) := by decide +kernel
theorem dL_law_252 : decode cL_law 252 = .ok (.iadd, 1) := by decide +kernel
theorem dL_law_253 : decode cL_law 253 = .ok (.iaload, 1) := by decide +kernel
theorem dL_law_254 : decode cL_law 254 = .ok (.invokevirtual 23, 3) := by decide +kernel
theorem dL_law_257 : decode cL_law 257 = .ok (.aload_n 2, 1) := by decide +kernel
theorem dL_law_258 : decode cL_law 258 = .ok (.aload_n 0, 1) := by decide +kernel
theorem dL_law_259 : decode cL_law 259 = .ok (.iload_n 3, 1) := by decide +kernel
theorem dL_law_260 : decode cL_law 260 = .ok (.iconst 1, 1) := by decide +kernel
theorem dL_law_261 : decode cL_law 261 = .ok (.iadd, 1) := by decide +kernel
theorem dL_law_262 : decode cL_law 262 = .ok (.iaload, 1) := by decide +kernel
theorem dL_law_263 : decode cL_law 263 = .ok (.invokevirtual 26, 3) := by decide +kernel
theorem dL_law_266 : decode cL_law 266 = .ok (.if_icmp .eq 976, 3) := by decide +kernel
theorem dL_law_269 : decode cL_law 269 = .ok (.iconst 0, 1) := by decide +kernel
theorem dL_law_270 : decode cL_law 270 = .ok (.ireturn, 1) := by decide +kernel
theorem dL_law_271 : decode cL_law 271 = .ok (.aload_n 1, 1) := by decide +kernel
theorem dL_law_272 : decode cL_law 272 = .ok (.aload_n 0, 1) := by decide +kernel
theorem dL_law_273 : decode cL_law 273 = .ok (.iload_n 3, 1) := by decide +kernel
theorem dL_law_274 : decode cL_law 274 = .ok (.iconst 1, 1) := by decide +kernel
theorem dL_law_275 : decode cL_law 275 = .ok (.iadd, 1) := by decide +kernel
theorem dL_law_276 : decode cL_law 276 = .ok (.iaload, 1) := by decide +kernel
theorem dL_law_277 : decode cL_law 277 = .ok (.invokevirtual 27, 3) := by decide +kernel
theorem dL_law_280 : decode cL_law 280 = .ok (.aload_n 2, 1) := by decide +kernel
theorem dL_law_281 : decode cL_law 281 = .ok (.aload_n 0, 1) := by decide +kernel
theorem dL_law_282 : decode cL_law 282 = .ok (.iload_n 3, 1) := by decide +kernel
theorem dL_law_283 : decode cL_law 283 = .ok (.iconst 1, 1) := by decide +kernel
theorem dL_law_284 : decode cL_law 284 = .ok (.iadd, 1) := by decide +kernel
theorem dL_law_285 : decode cL_law 285 = .ok (.iaload, 1) := by decide +kernel
theorem dL_law_286 : decode cL_law 286 = .ok (.invokevirtual 30, 3) := by decide +kernel
theorem dL_law_289 : decode cL_law 289 = .ok (.if_icmp .eq 953, 3) := by decide +kernel
theorem dL_law_292 : decode cL_law 292 = .ok (.iconst 0, 1) := by decide +kernel
theorem dL_law_293 : decode cL_law 293 = .ok (.ireturn, 1) := by decide +kernel
theorem dL_law_294 : decode cL_law 294 = .ok (.aload_n 1, 1) := by decide +kernel
theorem dL_law_295 : decode cL_law 295 = .ok (.aload_n 0, 1) := by decide +kernel
theorem dL_law_296 : decode cL_law 296 = .ok (.iload_n 3, 1) := by decide +kernel
theorem dL_law_297 : decode cL_law 297 = .ok (.iconst 1, 1) := by decide +kernel
theorem dL_law_298 : decode cL_law 298 = .ok (.iadd, 1) := by decide +kernel
theorem dL_law_299 : decode cL_law 299 = .ok (.iaload, 1) := by decide +kernel
theorem dL_law_300 : decode cL_law 300 = .ok (.aload_n 0, 1) := by decide +kernel
theorem dL_law_301 : decode cL_law 301 = .ok (.iload_n 3, 1) := by decide +kernel
theorem dL_law_302 : decode cL_law 302 = .ok (.iconst 2, 1) := by decide +kernel
theorem dL_law_303 : decode cL_law 303 = .ok (.iadd, 1) := by decide +kernel
theorem dL_law_304 : decode cL_law 304 = .ok (.iaload, 1) := by decide +kernel
theorem dL_law_305 : decode cL_law 305 = .ok (.invokevirtual 31, 3) := by decide +kernel
theorem dL_law_308 : decode cL_law 308 = .ok (.aload_n 2, 1) := by decide +kernel
theorem dL_law_309 : decode cL_law 309 = .ok (.aload_n 0, 1) := by decide +kernel
theorem dL_law_310 : decode cL_law 310 = .ok (.iload_n 3, 1) := by decide +kernel
theorem dL_law_311 : decode cL_law 311 = .ok (.iconst 1, 1) := by decide +kernel
theorem dL_law_312 : decode cL_law 312 = .ok (.iadd, 1) := by decide +kernel
theorem dL_law_313 : decode cL_law 313 = .ok (.iaload, 1) := by decide +kernel
theorem dL_law_314 : decode cL_law 314 = .ok (.aload_n 0, 1) := by decide +kernel
theorem dL_law_315 : decode cL_law 315 = .ok (.iload_n 3, 1) := by decide +kernel
theorem dL_law_316 : decode cL_law 316 = .ok (.iconst 2, 1) := by decide +kernel
theorem dL_law_317 : decode cL_law 317 = .ok (.iadd, 1) := by decide +kernel
theorem dL_law_318 : decode cL_law 318 = .ok (.iaload, 1) := by decide +kernel
theorem dL_law_319 : decode cL_law 319 = .ok (.invokevirtual 34, 3) := by decide +kernel
theorem dL_law_322 : decode cL_law 322 = .ok (.if_icmp .eq 920, 3) := by decide +kernel
theorem dL_law_325 : decode cL_law 325 = .ok (.iconst 0, 1) := by decide +kernel
theorem dL_law_326 : decode cL_law 326 = .ok (.ireturn, 1) := by decide +kernel
theorem dL_law_327 : decode cL_law 327 = .ok (.aload_n 1, 1) := by decide +kernel
theorem dL_law_328 : decode cL_law 328 = .ok (.aload_n 0, 1) := by decide +kernel
theorem dL_law_329 : decode cL_law 329 = .ok (.iload_n 3, 1) := by decide +kernel
theorem dL_law_330 : decode cL_law 330 = .ok (.iconst 1, 1) := by decide +kernel
theorem dL_law_331 : decode cL_law 331 = .ok (.iadd, 1) := by decide +kernel
theorem dL_law_332 : decode cL_law 332 = .ok (.iaload, 1) := by decide +kernel
theorem dL_law_333 : decode cL_law 333 = .ok (.aload_n 0, 1) := by decide +kernel
theorem dL_law_334 : decode cL_law 334 = .ok (.iload_n 3, 1) := by decide +kernel
theorem dL_law_335 : decode cL_law 335 = .ok (.iconst 2, 1) := by decide +kernel
theorem dL_law_336 : decode cL_law 336 = .ok (.iadd, 1) := by decide +kernel
theorem dL_law_337 : decode cL_law 337 = .ok (.iaload, 1) := by decide +kernel
theorem dL_law_338 : decode cL_law 338 = .ok (.invokevirtual 35, 3) := by decide +kernel
theorem dL_law_341 : decode cL_law 341 = .ok (.aload_n 2, 1) := by decide +kernel
theorem dL_law_342 : decode cL_law 342 = .ok (.aload_n 0, 1) := by decide +kernel
theorem dL_law_343 : decode cL_law 343 = .ok (.iload_n 3, 1) := by decide +kernel
theorem dL_law_344 : decode cL_law 344 = .ok (.iconst 1, 1) := by decide +kernel
theorem dL_law_345 : decode cL_law 345 = .ok (.iadd, 1) := by decide +kernel
theorem dL_law_346 : decode cL_law 346 = .ok (.iaload, 1) := by decide +kernel
theorem dL_law_347 : decode cL_law 347 = .ok (.aload_n 0, 1) := by decide +kernel
theorem dL_law_348 : decode cL_law 348 = .ok (.iload_n 3, 1) := by decide +kernel
theorem dL_law_349 : decode cL_law 349 = .ok (.iconst 2, 1) := by decide +kernel
theorem dL_law_350 : decode cL_law 350 = .ok (.iadd, 1) := by decide +kernel
theorem dL_law_351 : decode cL_law 351 = .ok (.iaload, 1) := by decide +kernel
theorem dL_law_352 : decode cL_law 352 = .ok (.invokevirtual 38, 3) := by decide +kernel
theorem dL_law_355 : decode cL_law 355 = .ok (.if_icmp .eq 887, 3) := by decide +kernel
theorem dL_law_358 : decode cL_law 358 = .ok (.iconst 0, 1) := by decide +kernel
theorem dL_law_359 : decode cL_law 359 = .ok (.ireturn, 1) := by decide +kernel
theorem dL_law_360 : decode cL_law 360 = .ok (.aload_n 1, 1) := by decide +kernel
theorem dL_law_361 : decode cL_law 361 = .ok (.aload_n 0, 1) := by decide +kernel
theorem dL_law_362 : decode cL_law 362 = .ok (.iload_n 3, 1) := by decide +kernel
theorem dL_law_363 : decode cL_law 363 = .ok (.iconst 1, 1) := by decide +kernel
theorem dL_law_364 : decode cL_law 364 = .ok (.iadd, 1) := by decide +kernel
theorem dL_law_365 : decode cL_law 365 = .ok (.iaload, 1) := by decide +kernel
theorem dL_law_366 : decode cL_law 366 = .ok (.aload_n 0, 1) := by decide +kernel
theorem dL_law_367 : decode cL_law 367 = .ok (.iload_n 3, 1) := by decide +kernel
theorem dL_law_368 : decode cL_law 368 = .ok (.iconst 2, 1) := by decide +kernel
theorem dL_law_369 : decode cL_law 369 = .ok (.iadd, 1) := by decide +kernel
theorem dL_law_370 : decode cL_law 370 = .ok (.iaload, 1) := by decide +kernel
theorem dL_law_371 : decode cL_law 371 = .ok (.invokevirtual 39, 3) := by decide +kernel
theorem dL_law_374 : decode cL_law 374 = .ok (.aload_n 2, 1) := by decide +kernel
theorem dL_law_375 : decode cL_law 375 = .ok (.aload_n 0, 1) := by decide +kernel
theorem dL_law_376 : decode cL_law 376 = .ok (.iload_n 3, 1) := by decide +kernel
theorem dL_law_377 : decode cL_law 377 = .ok (.iconst 1, 1) := by decide +kernel
theorem dL_law_378 : decode cL_law 378 = .ok (.iadd, 1) := by decide +kernel
theorem dL_law_379 : decode cL_law 379 = .ok (.iaload, 1) := by decide +kernel
theorem dL_law_380 : decode cL_law 380 = .ok (.aload_n 0, 1) := by decide +kernel
theorem dL_law_381 : decode cL_law 381 = .ok (.iload_n 3, 1) := by decide +kernel
theorem dL_law_382 : decode cL_law 382 = .ok (.iconst 2, 1) := by decide +kernel
theorem dL_law_383 : decode cL_law 383 = .ok (.iadd, 1) := by decide +kernel
theorem dL_law_384 : decode cL_law 384 = .ok (.iaload, 1) := by decide +kernel
theorem dL_law_385 : decode cL_law 385 = .ok (.invokevirtual 42, 3) := by decide +kernel
theorem dL_law_388 : decode cL_law 388 = .ok (.if_icmp .eq 854, 3) := by decide +kernel
theorem dL_law_391 : decode cL_law 391 = .ok (.iconst 0, 1) := by decide +kernel
theorem dL_law_392 : decode cL_law 392 = .ok (.ireturn, 1) := by decide +kernel
theorem dL_law_393 : decode cL_law 393 = .ok (.aload_n 1, 1) := by decide +kernel
theorem dL_law_394 : decode cL_law 394 = .ok (.aload_n 0, 1) := by decide +kernel
theorem dL_law_395 : decode cL_law 395 = .ok (.iload_n 3, 1) := by decide +kernel
theorem dL_law_396 : decode cL_law 396 = .ok (.iconst 1, 1) := by decide +kernel
theorem dL_law_397 : decode cL_law 397 = .ok (.iadd, 1) := by decide +kernel
theorem dL_law_398 : decode cL_law 398 = .ok (.iaload, 1) := by decide +kernel
theorem dL_law_399 : decode cL_law 399 = .ok (.aload_n 0, 1) := by decide +kernel
theorem dL_law_400 : decode cL_law 400 = .ok (.iload_n 3, 1) := by decide +kernel
theorem dL_law_401 : decode cL_law 401 = .ok (.iconst 2, 1) := by decide +kernel
theorem dL_law_402 : decode cL_law 402 = .ok (.iadd, 1) := by decide +kernel
theorem dL_law_403 : decode cL_law 403 = .ok (.iaload, 1) := by decide +kernel
theorem dL_law_404 : decode cL_law 404 = .ok (.invokevirtual 43, 3) := by decide +kernel
theorem dL_law_407 : decode cL_law 407 = .ok (.aload_n 2, 1) := by decide +kernel
theorem dL_law_408 : decode cL_law 408 = .ok (.aload_n 0, 1) := by decide +kernel
theorem dL_law_409 : decode cL_law 409 = .ok (.iload_n 3, 1) := by decide +kernel
theorem dL_law_410 : decode cL_law 410 = .ok (.iconst 1, 1) := by decide +kernel
theorem dL_law_411 : decode cL_law 411 = .ok (.iadd, 1) := by decide +kernel
theorem dL_law_412 : decode cL_law 412 = .ok (.iaload, 1) := by decide +kernel
theorem dL_law_413 : decode cL_law 413 = .ok (.aload_n 0, 1) := by decide +kernel
theorem dL_law_414 : decode cL_law 414 = .ok (.iload_n 3, 1) := by decide +kernel
theorem dL_law_415 : decode cL_law 415 = .ok (.iconst 2, 1) := by decide +kernel
theorem dL_law_416 : decode cL_law 416 = .ok (.iadd, 1) := by decide +kernel
theorem dL_law_417 : decode cL_law 417 = .ok (.iaload, 1) := by decide +kernel
theorem dL_law_418 : decode cL_law 418 = .ok (.invokevirtual 46, 3) := by decide +kernel
theorem dL_law_421 : decode cL_law 421 = .ok (.if_icmp .eq 821, 3) := by decide +kernel
theorem dL_law_424 : decode cL_law 424 = .ok (.iconst 0, 1) := by decide +kernel
theorem dL_law_425 : decode cL_law 425 = .ok (.ireturn, 1) := by decide +kernel
theorem dL_law_426 : decode cL_law 426 = .ok (.aload_n 1, 1) := by decide +kernel
theorem dL_law_427 : decode cL_law 427 = .ok (.invokevirtual 47, 3) := by decide +kernel
theorem dL_law_430 : decode cL_law 430 = .ok (.aload_n 2, 1) := by decide +kernel
theorem dL_law_431 : decode cL_law 431 = .ok (.invokevirtual 51, 3) := by decide +kernel
theorem dL_law_434 : decode cL_law 434 = .ok (.if_icmp .eq 808, 3) := by decide +kernel
theorem dL_law_437 : decode cL_law 437 = .ok (.iconst 0, 1) := by decide +kernel
theorem dL_law_438 : decode cL_law 438 = .ok (.ireturn, 1) := by decide +kernel
theorem dL_law_439 : decode cL_law 439 = .ok (.aload_n 1, 1) := by decide +kernel
theorem dL_law_440 : decode cL_law 440 = .ok (.aload_n 0, 1) := by decide +kernel
theorem dL_law_441 : decode cL_law 441 = .ok (.iload_n 3, 1) := by decide +kernel
theorem dL_law_442 : decode cL_law 442 = .ok (.iconst 1, 1) := by decide +kernel
theorem dL_law_443 : decode cL_law 443 = .ok (.iadd, 1) := by decide +kernel
theorem dL_law_444 : decode cL_law 444 = .ok (.iaload, 1) := by decide +kernel
theorem dL_law_445 : decode cL_law 445 = .ok (.invokevirtual 52, 3) := by decide +kernel
theorem dL_law_448 : decode cL_law 448 = .ok (.aload_n 2, 1) := by decide +kernel
theorem dL_law_449 : decode cL_law 449 = .ok (.aload_n 0, 1) := by decide +kernel
theorem dL_law_450 : decode cL_law 450 = .ok (.iload_n 3, 1) := by decide +kernel
theorem dL_law_451 : decode cL_law 451 = .ok (.iconst 1, 1) := by decide +kernel
theorem dL_law_452 : decode cL_law 452 = .ok (.iadd, 1) := by decide +kernel
theorem dL_law_453 : decode cL_law 453 = .ok (.iaload, 1) := by decide +kernel
theorem dL_law_454 : decode cL_law 454 = .ok (.invokevirtual 55, 3) := by decide +kernel
theorem dL_law_457 : decode cL_law 457 = .ok (.if_icmp .eq 785, 3) := by decide +kernel
theorem dL_law_460 : decode cL_law 460 = .ok (.iconst 0, 1) := by decide +kernel
theorem dL_law_461 : decode cL_law 461 = .ok (.ireturn, 1) := by decide +kernel
theorem dL_law_462 : decode cL_law 462 = .ok (.aload_n 1, 1) := by decide +kernel
theorem dL_law_463 : decode cL_law 463 = .ok (.aload_n 0, 1) := by decide +kernel
theorem dL_law_464 : decode cL_law 464 = .ok (.iload_n 3, 1) := by decide +kernel
theorem dL_law_465 : decode cL_law 465 = .ok (.iconst 1, 1) := by decide +kernel
theorem dL_law_466 : decode cL_law 466 = .ok (.iadd, 1) := by decide +kernel
theorem dL_law_467 : decode cL_law 467 = .ok (.iaload, 1) := by decide +kernel
theorem dL_law_468 : decode cL_law 468 = .ok (.aload_n 0, 1) := by decide +kernel
theorem dL_law_469 : decode cL_law 469 = .ok (.iload_n 3, 1) := by decide +kernel
theorem dL_law_470 : decode cL_law 470 = .ok (.iconst 2, 1) := by decide +kernel
theorem dL_law_471 : decode cL_law 471 = .ok (.iadd, 1) := by decide +kernel
theorem dL_law_472 : decode cL_law 472 = .ok (.iaload, 1) := by decide +kernel
theorem dL_law_473 : decode cL_law 473 = .ok (.aload_n 0, 1) := by decide +kernel
theorem dL_law_474 : decode cL_law 474 = .ok (.iload_n 3, 1) := by decide +kernel
theorem dL_law_475 : decode cL_law 475 = .ok (.iconst 3, 1) := by decide +kernel
theorem dL_law_476 : decode cL_law 476 = .ok (.iadd, 1) := by decide +kernel
theorem dL_law_477 : decode cL_law 477 = .ok (.iaload, 1) := by decide +kernel
theorem dL_law_478 : decode cL_law 478 = .ok (.invokevirtual 56, 3) := by decide +kernel
theorem dL_law_481 : decode cL_law 481 = .ok (.aload_n 2, 1) := by decide +kernel
theorem dL_law_482 : decode cL_law 482 = .ok (.aload_n 0, 1) := by decide +kernel
theorem dL_law_483 : decode cL_law 483 = .ok (.iload_n 3, 1) := by decide +kernel
theorem dL_law_484 : decode cL_law 484 = .ok (.iconst 1, 1) := by decide +kernel
theorem dL_law_485 : decode cL_law 485 = .ok (.iadd, 1) := by decide +kernel
theorem dL_law_486 : decode cL_law 486 = .ok (.iaload, 1) := by decide +kernel
theorem dL_law_487 : decode cL_law 487 = .ok (.aload_n 0, 1) := by decide +kernel
theorem dL_law_488 : decode cL_law 488 = .ok (.iload_n 3, 1) := by decide +kernel
theorem dL_law_489 : decode cL_law 489 = .ok (.iconst 2, 1) := by decide +kernel
theorem dL_law_490 : decode cL_law 490 = .ok (.iadd, 1) := by decide +kernel
theorem dL_law_491 : decode cL_law 491 = .ok (.iaload, 1) := by decide +kernel
theorem dL_law_492 : decode cL_law 492 = .ok (.aload_n 0, 1) := by decide +kernel
theorem dL_law_493 : decode cL_law 493 = .ok (.iload_n 3, 1) := by decide +kernel
theorem dL_law_494 : decode cL_law 494 = .ok (.iconst 3, 1) := by decide +kernel
theorem dL_law_495 : decode cL_law 495 = .ok (.iadd, 1) := by decide +kernel
theorem dL_law_496 : decode cL_law 496 = .ok (.iaload, 1) := by decide +kernel
theorem dL_law_497 : decode cL_law 497 = .ok (.invokevirtual 60, 3) := by decide +kernel
theorem dL_law_500 : decode cL_law 500 = .ok (.if_icmp .eq 742, 3) := by decide +kernel
theorem dL_law_503 : decode cL_law 503 = .ok (.iconst 0, 1) := by decide +kernel
theorem dL_law_504 : decode cL_law 504 = .ok (.ireturn, 1) := by decide +kernel
theorem dL_law_505 : decode cL_law 505 = .ok (.aload_n 1, 1) := by decide +kernel
theorem dL_law_506 : decode cL_law 506 = .ok (.aload_n 0, 1) := by decide +kernel
theorem dL_law_507 : decode cL_law 507 = .ok (.iload_n 3, 1) := by decide +kernel
theorem dL_law_508 : decode cL_law 508 = .ok (.iconst 1, 1) := by decide +kernel
theorem dL_law_509 : decode cL_law 509 = .ok (.iadd, 1) := by decide +kernel
theorem dL_law_510 : decode cL_law 510 = .ok (.iaload, 1) := by decide +kernel
theorem dL_law_511 : decode cL_law 511 = .ok (.invokevirtual 61, 3) := by decide +kernel
theorem dL_law_514 : decode cL_law 514 = .ok (.aload_n 2, 1) := by decide +kernel
theorem dL_law_515 : decode cL_law 515 = .ok (.aload_n 0, 1) := by decide +kernel
theorem dL_law_516 : decode cL_law 516 = .ok (.iload_n 3, 1) := by decide +kernel
theorem dL_law_517 : decode cL_law 517 = .ok (.iconst 1, 1) := by decide +kernel
theorem dL_law_518 : decode cL_law 518 = .ok (.iadd, 1) := by decide +kernel
theorem dL_law_519 : decode cL_law 519 = .ok (.iaload, 1) := by decide +kernel
theorem dL_law_520 : decode cL_law 520 = .ok (.invokevirtual 64, 3) := by decide +kernel
theorem dL_law_523 : decode cL_law 523 = .ok (.if_icmp .eq 719, 3) := by decide +kernel
theorem dL_law_526 : decode cL_law 526 = .ok (.iconst 0, 1) := by decide +kernel
theorem dL_law_527 : decode cL_law 527 = .ok (.ireturn, 1) := by decide +kernel
theorem dL_law_528 : decode cL_law 528 = .ok (.aload_n 1, 1) := by decide +kernel
theorem dL_law_529 : decode cL_law 529 = .ok (.aload_n 0, 1) := by decide +kernel
theorem dL_law_530 : decode cL_law 530 = .ok (.iload_n 3, 1) := by decide +kernel
theorem dL_law_531 : decode cL_law 531 = .ok (.iconst 1, 1) := by decide +kernel
theorem dL_law_532 : decode cL_law 532 = .ok (.iadd, 1) := by decide +kernel
theorem dL_law_533 : decode cL_law 533 = .ok (.iaload, 1) := by decide +kernel
theorem dL_law_534 : decode cL_law 534 = .ok (.aload_n 0, 1) := by decide +kernel
theorem dL_law_535 : decode cL_law 535 = .ok (.iload_n 3, 1) := by decide +kernel
theorem dL_law_536 : decode cL_law 536 = .ok (.iconst 2, 1) := by decide +kernel
theorem dL_law_537 : decode cL_law 537 = .ok (.iadd, 1) := by decide +kernel
theorem dL_law_538 : decode cL_law 538 = .ok (.iaload, 1) := by decide +kernel
theorem dL_law_539 : decode cL_law 539 = .ok (.invokevirtual 65, 3) := by decide +kernel
theorem dL_law_542 : decode cL_law 542 = .ok (.aload_n 2, 1) := by decide +kernel
theorem dL_law_543 : decode cL_law 543 = .ok (.aload_n 0, 1) := by decide +kernel
theorem dL_law_544 : decode cL_law 544 = .ok (.iload_n 3, 1) := by decide +kernel
theorem dL_law_545 : decode cL_law 545 = .ok (.iconst 1, 1) := by decide +kernel
theorem dL_law_546 : decode cL_law 546 = .ok (.iadd, 1) := by decide +kernel
theorem dL_law_547 : decode cL_law 547 = .ok (.iaload, 1) := by decide +kernel
theorem dL_law_548 : decode cL_law 548 = .ok (.aload_n 0, 1) := by decide +kernel
theorem dL_law_549 : decode cL_law 549 = .ok (.iload_n 3, 1) := by decide +kernel
theorem dL_law_550 : decode cL_law 550 = .ok (.iconst 2, 1) := by decide +kernel
theorem dL_law_551 : decode cL_law 551 = .ok (.iadd, 1) := by decide +kernel
theorem dL_law_552 : decode cL_law 552 = .ok (.iaload, 1) := by decide +kernel
theorem dL_law_553 : decode cL_law 553 = .ok (.invokevirtual 68, 3) := by decide +kernel
theorem dL_law_556 : decode cL_law 556 = .ok (.if_icmp .eq 686, 3) := by decide +kernel
theorem dL_law_559 : decode cL_law 559 = .ok (.iconst 0, 1) := by decide +kernel
theorem dL_law_560 : decode cL_law 560 = .ok (.ireturn, 1) := by decide +kernel
theorem dL_law_561 : decode cL_law 561 = .ok (.aload_n 1, 1) := by decide +kernel
theorem dL_law_562 : decode cL_law 562 = .ok (.aload_n 0, 1) := by decide +kernel
theorem dL_law_563 : decode cL_law 563 = .ok (.iload_n 3, 1) := by decide +kernel
theorem dL_law_564 : decode cL_law 564 = .ok (.iconst 1, 1) := by decide +kernel
theorem dL_law_565 : decode cL_law 565 = .ok (.iadd, 1) := by decide +kernel
theorem dL_law_566 : decode cL_law 566 = .ok (.iaload, 1) := by decide +kernel
theorem dL_law_567 : decode cL_law 567 = .ok (.invokevirtual 69, 3) := by decide +kernel
theorem dL_law_570 : decode cL_law 570 = .ok (.aload_n 2, 1) := by decide +kernel
theorem dL_law_571 : decode cL_law 571 = .ok (.aload_n 0, 1) := by decide +kernel
theorem dL_law_572 : decode cL_law 572 = .ok (.iload_n 3, 1) := by decide +kernel
theorem dL_law_573 : decode cL_law 573 = .ok (.iconst 1, 1) := by decide +kernel
theorem dL_law_574 : decode cL_law 574 = .ok (.iadd, 1) := by decide +kernel
theorem dL_law_575 : decode cL_law 575 = .ok (.iaload, 1) := by decide +kernel
theorem dL_law_576 : decode cL_law 576 = .ok (.invokevirtual 72, 3) := by decide +kernel
theorem dL_law_579 : decode cL_law 579 = .ok (.if_icmp .eq 663, 3) := by decide +kernel
theorem dL_law_582 : decode cL_law 582 = .ok (.iconst 0, 1) := by decide +kernel
theorem dL_law_583 : decode cL_law 583 = .ok (.ireturn, 1) := by decide +kernel
theorem dL_law_584 : decode cL_law 584 = .ok (.aload_n 1, 1) := by decide +kernel
theorem dL_law_585 : decode cL_law 585 = .ok (.aload_n 0, 1) := by decide +kernel
theorem dL_law_586 : decode cL_law 586 = .ok (.iload_n 3, 1) := by decide +kernel
theorem dL_law_587 : decode cL_law 587 = .ok (.iconst 1, 1) := by decide +kernel
theorem dL_law_588 : decode cL_law 588 = .ok (.iadd, 1) := by decide +kernel
theorem dL_law_589 : decode cL_law 589 = .ok (.iaload, 1) := by decide +kernel
theorem dL_law_590 : decode cL_law 590 = .ok (.invokevirtual 73, 3) := by decide +kernel
theorem dL_law_593 : decode cL_law 593 = .ok (.aload_n 2, 1) := by decide +kernel
theorem dL_law_594 : decode cL_law 594 = .ok (.aload_n 0, 1) := by decide +kernel
theorem dL_law_595 : decode cL_law 595 = .ok (.iload_n 3, 1) := by decide +kernel
theorem dL_law_596 : decode cL_law 596 = .ok (.iconst 1, 1) := by decide +kernel
theorem dL_law_597 : decode cL_law 597 = .ok (.iadd, 1) := by decide +kernel
theorem dL_law_598 : decode cL_law 598 = .ok (.iaload, 1) := by decide +kernel
theorem dL_law_599 : decode cL_law 599 = .ok (.invokevirtual 76, 3) := by decide +kernel
theorem dL_law_602 : decode cL_law 602 = .ok (.if_icmp .eq 640, 3) := by decide +kernel
theorem dL_law_605 : decode cL_law 605 = .ok (.iconst 0, 1) := by decide +kernel
theorem dL_law_606 : decode cL_law 606 = .ok (.ireturn, 1) := by decide +kernel
theorem dL_law_607 : decode cL_law 607 = .ok (.aload_n 1, 1) := by decide +kernel
theorem dL_law_608 : decode cL_law 608 = .ok (.invokevirtual 77, 3) := by decide +kernel
theorem dL_law_611 : decode cL_law 611 = .ok (.aload_n 2, 1) := by decide +kernel
theorem dL_law_612 : decode cL_law 612 = .ok (.invokevirtual 80, 3) := by decide +kernel
theorem dL_law_615 : decode cL_law 615 = .ok (.if_icmp .eq 627, 3) := by decide +kernel
theorem dL_law_618 : decode cL_law 618 = .ok (.iconst 0, 1) := by decide +kernel
theorem dL_law_619 : decode cL_law 619 = .ok (.ireturn, 1) := by decide +kernel
theorem dL_law_620 : decode cL_law 620 = .ok (.aload_n 1, 1) := by decide +kernel
theorem dL_law_621 : decode cL_law 621 = .ok (.aload_n 0, 1) := by decide +kernel
theorem dL_law_622 : decode cL_law 622 = .ok (.iload_n 3, 1) := by decide +kernel
theorem dL_law_623 : decode cL_law 623 = .ok (.iconst 1, 1) := by decide +kernel
theorem dL_law_624 : decode cL_law 624 = .ok (.iadd, 1) := by decide +kernel
theorem dL_law_625 : decode cL_law 625 = .ok (.iaload, 1) := by decide +kernel
theorem dL_law_626 : decode cL_law 626 = .ok (.invokevirtual 81, 3) := by decide +kernel
theorem dL_law_629 : decode cL_law 629 = .ok (.aload_n 2, 1) := by decide +kernel
theorem dL_law_630 : decode cL_law 630 = .ok (.aload_n 0, 1) := by decide +kernel
theorem dL_law_631 : decode cL_law 631 = .ok (.iload_n 3, 1) := by decide +kernel
theorem dL_law_632 : decode cL_law 632 = .ok (.iconst 1, 1) := by decide +kernel
theorem dL_law_633 : decode cL_law 633 = .ok (.iadd, 1) := by decide +kernel
theorem dL_law_634 : decode cL_law 634 = .ok (.iaload, 1) := by decide +kernel
theorem dL_law_635 : decode cL_law 635 = .ok (.invokevirtual 84, 3) := by decide +kernel
theorem dL_law_638 : decode cL_law 638 = .ok (.if_icmp .eq 604, 3) := by decide +kernel
theorem dL_law_641 : decode cL_law 641 = .ok (.iconst 0, 1) := by decide +kernel
theorem dL_law_642 : decode cL_law 642 = .ok (.ireturn, 1) := by decide +kernel
theorem dL_law_643 : decode cL_law 643 = .ok (.aload_n 1, 1) := by decide +kernel
theorem dL_law_644 : decode cL_law 644 = .ok (.aload_n 0, 1) := by decide +kernel
theorem dL_law_645 : decode cL_law 645 = .ok (.iload_n 3, 1) := by decide +kernel
theorem dL_law_646 : decode cL_law 646 = .ok (.iconst 1, 1) := by decide +kernel
theorem dL_law_647 : decode cL_law 647 = .ok (.iadd, 1) := by decide +kernel
theorem dL_law_648 : decode cL_law 648 = .ok (.iaload, 1) := by decide +kernel
theorem dL_law_649 : decode cL_law 649 = .ok (.invokevirtual 85, 3) := by decide +kernel
theorem dL_law_652 : decode cL_law 652 = .ok (.aload_n 2, 1) := by decide +kernel
theorem dL_law_653 : decode cL_law 653 = .ok (.aload_n 0, 1) := by decide +kernel
theorem dL_law_654 : decode cL_law 654 = .ok (.iload_n 3, 1) := by decide +kernel
theorem dL_law_655 : decode cL_law 655 = .ok (.iconst 1, 1) := by decide +kernel
theorem dL_law_656 : decode cL_law 656 = .ok (.iadd, 1) := by decide +kernel
theorem dL_law_657 : decode cL_law 657 = .ok (.iaload, 1) := by decide +kernel
theorem dL_law_658 : decode cL_law 658 = .ok (.invokevirtual 88, 3) := by decide +kernel
theorem dL_law_661 : decode cL_law 661 = .ok (.if_icmp .eq 581, 3) := by decide +kernel
theorem dL_law_664 : decode cL_law 664 = .ok (.iconst 0, 1) := by decide +kernel
theorem dL_law_665 : decode cL_law 665 = .ok (.ireturn, 1) := by decide +kernel
theorem dL_law_666 : decode cL_law 666 = .ok (.aload_n 1, 1) := by decide +kernel
theorem dL_law_667 : decode cL_law 667 = .ok (.aload_n 0, 1) := by decide +kernel
theorem dL_law_668 : decode cL_law 668 = .ok (.iload_n 3, 1) := by decide +kernel
theorem dL_law_669 : decode cL_law 669 = .ok (.iconst 1, 1) := by decide +kernel
theorem dL_law_670 : decode cL_law 670 = .ok (.iadd, 1) := by decide +kernel
theorem dL_law_671 : decode cL_law 671 = .ok (.iaload, 1) := by decide +kernel
theorem dL_law_672 : decode cL_law 672 = .ok (.aload_n 0, 1) := by decide +kernel
theorem dL_law_673 : decode cL_law 673 = .ok (.iload_n 3, 1) := by decide +kernel
theorem dL_law_674 : decode cL_law 674 = .ok (.iconst 2, 1) := by decide +kernel
theorem dL_law_675 : decode cL_law 675 = .ok (.iadd, 1) := by decide +kernel
theorem dL_law_676 : decode cL_law 676 = .ok (.iaload, 1) := by decide +kernel
theorem dL_law_677 : decode cL_law 677 = .ok (.invokevirtual 89, 3) := by decide +kernel
theorem dL_law_680 : decode cL_law 680 = .ok (.aload_n 2, 1) := by decide +kernel
theorem dL_law_681 : decode cL_law 681 = .ok (.aload_n 0, 1) := by decide +kernel
theorem dL_law_682 : decode cL_law 682 = .ok (.iload_n 3, 1) := by decide +kernel
theorem dL_law_683 : decode cL_law 683 = .ok (.iconst 1, 1) := by decide +kernel
theorem dL_law_684 : decode cL_law 684 = .ok (.iadd, 1) := by decide +kernel
theorem dL_law_685 : decode cL_law 685 = .ok (.iaload, 1) := by decide +kernel
theorem dL_law_686 : decode cL_law 686 = .ok (.aload_n 0, 1) := by decide +kernel
theorem dL_law_687 : decode cL_law 687 = .ok (.iload_n 3, 1) := by decide +kernel
theorem dL_law_688 : decode cL_law 688 = .ok (.iconst 2, 1) := by decide +kernel
theorem dL_law_689 : decode cL_law 689 = .ok (.iadd, 1) := by decide +kernel
theorem dL_law_690 : decode cL_law 690 = .ok (.iaload, 1) := by decide +kernel
theorem dL_law_691 : decode cL_law 691 = .ok (.invokevirtual 92, 3) := by decide +kernel
theorem dL_law_694 : decode cL_law 694 = .ok (.if_icmp .eq 548, 3) := by decide +kernel
theorem dL_law_697 : decode cL_law 697 = .ok (.iconst 0, 1) := by decide +kernel
theorem dL_law_698 : decode cL_law 698 = .ok (.ireturn, 1) := by decide +kernel
theorem dL_law_699 : decode cL_law 699 = .ok (.aload_n 1, 1) := by decide +kernel
theorem dL_law_700 : decode cL_law 700 = .ok (.aload_n 0, 1) := by decide +kernel
theorem dL_law_701 : decode cL_law 701 = .ok (.iload_n 3, 1) := by decide +kernel
theorem dL_law_702 : decode cL_law 702 = .ok (.iconst 1, 1) := by decide +kernel
theorem dL_law_703 : decode cL_law 703 = .ok (.iadd, 1) := by decide +kernel
theorem dL_law_704 : decode cL_law 704 = .ok (.iaload, 1) := by decide +kernel
theorem dL_law_705 : decode cL_law 705 = .ok (.invokevirtual 93, 3) := by decide +kernel
theorem dL_law_708 : decode cL_law 708 = .ok (.aload_n 2, 1) := by decide +kernel
theorem dL_law_709 : decode cL_law 709 = .ok (.aload_n 0, 1) := by decide +kernel
theorem dL_law_710 : decode cL_law 710 = .ok (.iload_n 3, 1) := by decide +kernel
theorem dL_law_711 : decode cL_law 711 = .ok (.iconst 1, 1) := by decide +kernel
theorem dL_law_712 : decode cL_law 712 = .ok (.iadd, 1) := by decide +kernel
theorem dL_law_713 : decode cL_law 713 = .ok (.iaload, 1) := by decide +kernel
theorem dL_law_714 : decode cL_law 714 = .ok (.invokevirtual 96, 3) := by decide +kernel
theorem dL_law_717 : decode cL_law 717 = .ok (.if_icmp .eq 525, 3) := by decide +kernel
theorem dL_law_720 : decode cL_law 720 = .ok (.iconst 0, 1) := by decide +kernel
theorem dL_law_721 : decode cL_law 721 = .ok (.ireturn, 1) := by decide +kernel
theorem dL_law_722 : decode cL_law 722 = .ok (.aload_n 1, 1) := by decide +kernel
theorem dL_law_723 : decode cL_law 723 = .ok (.aload_n 0, 1) := by decide +kernel
theorem dL_law_724 : decode cL_law 724 = .ok (.iload_n 3, 1) := by decide +kernel
theorem dL_law_725 : decode cL_law 725 = .ok (.iconst 1, 1) := by decide +kernel
theorem dL_law_726 : decode cL_law 726 = .ok (.iadd, 1) := by decide +kernel
theorem dL_law_727 : decode cL_law 727 = .ok (.iaload, 1) := by decide +kernel
theorem dL_law_728 : decode cL_law 728 = .ok (.aload_n 0, 1) := by decide +kernel
theorem dL_law_729 : decode cL_law 729 = .ok (.iload_n 3, 1) := by decide +kernel
theorem dL_law_730 : decode cL_law 730 = .ok (.iconst 2, 1) := by decide +kernel
theorem dL_law_731 : decode cL_law 731 = .ok (.iadd, 1) := by decide +kernel
theorem dL_law_732 : decode cL_law 732 = .ok (.iaload, 1) := by decide +kernel
theorem dL_law_733 : decode cL_law 733 = .ok (.aload_n 0, 1) := by decide +kernel
theorem dL_law_734 : decode cL_law 734 = .ok (.iload_n 3, 1) := by decide +kernel
theorem dL_law_735 : decode cL_law 735 = .ok (.iconst 3, 1) := by decide +kernel
theorem dL_law_736 : decode cL_law 736 = .ok (.iadd, 1) := by decide +kernel
theorem dL_law_737 : decode cL_law 737 = .ok (.iaload, 1) := by decide +kernel
theorem dL_law_738 : decode cL_law 738 = .ok (.invokevirtual 97, 3) := by decide +kernel
theorem dL_law_741 : decode cL_law 741 = .ok (.aload_n 2, 1) := by decide +kernel
theorem dL_law_742 : decode cL_law 742 = .ok (.aload_n 0, 1) := by decide +kernel
theorem dL_law_743 : decode cL_law 743 = .ok (.iload_n 3, 1) := by decide +kernel
theorem dL_law_744 : decode cL_law 744 = .ok (.iconst 1, 1) := by decide +kernel
theorem dL_law_745 : decode cL_law 745 = .ok (.iadd, 1) := by decide +kernel
theorem dL_law_746 : decode cL_law 746 = .ok (.iaload, 1) := by decide +kernel
theorem dL_law_747 : decode cL_law 747 = .ok (.aload_n 0, 1) := by decide +kernel
theorem dL_law_748 : decode cL_law 748 = .ok (.iload_n 3, 1) := by decide +kernel
theorem dL_law_749 : decode cL_law 749 = .ok (.iconst 2, 1) := by decide +kernel
theorem dL_law_750 : decode cL_law 750 = .ok (.iadd, 1) := by decide +kernel
theorem dL_law_751 : decode cL_law 751 = .ok (.iaload, 1) := by decide +kernel
theorem dL_law_752 : decode cL_law 752 = .ok (.aload_n 0, 1) := by decide +kernel
theorem dL_law_753 : decode cL_law 753 = .ok (.iload_n 3, 1) := by decide +kernel
theorem dL_law_754 : decode cL_law 754 = .ok (.iconst 3, 1) := by decide +kernel
theorem dL_law_755 : decode cL_law 755 = .ok (.iadd, 1) := by decide +kernel
theorem dL_law_756 : decode cL_law 756 = .ok (.iaload, 1) := by decide +kernel
theorem dL_law_757 : decode cL_law 757 = .ok (.invokevirtual 100, 3) := by decide +kernel
theorem dL_law_760 : decode cL_law 760 = .ok (.if_icmp .eq 482, 3) := by decide +kernel
theorem dL_law_763 : decode cL_law 763 = .ok (.iconst 0, 1) := by decide +kernel
theorem dL_law_764 : decode cL_law 764 = .ok (.ireturn, 1) := by decide +kernel
theorem dL_law_765 : decode cL_law 765 = .ok (.aload_n 1, 1) := by decide +kernel
theorem dL_law_766 : decode cL_law 766 = .ok (.invokevirtual 101, 3) := by decide +kernel
theorem dL_law_769 : decode cL_law 769 = .ok (.aload_n 2, 1) := by decide +kernel
theorem dL_law_770 : decode cL_law 770 = .ok (.invokevirtual 104, 3) := by decide +kernel
theorem dL_law_773 : decode cL_law 773 = .ok (.if_icmp .eq 469, 3) := by decide +kernel
theorem dL_law_776 : decode cL_law 776 = .ok (.iconst 0, 1) := by decide +kernel
theorem dL_law_777 : decode cL_law 777 = .ok (.ireturn, 1) := by decide +kernel
theorem dL_law_778 : decode cL_law 778 = .ok (.aload_n 1, 1) := by decide +kernel
theorem dL_law_779 : decode cL_law 779 = .ok (.invokevirtual 105, 3) := by decide +kernel
theorem dL_law_782 : decode cL_law 782 = .ok (.aload_n 2, 1) := by decide +kernel
theorem dL_law_783 : decode cL_law 783 = .ok (.invokevirtual 108, 3) := by decide +kernel
theorem dL_law_786 : decode cL_law 786 = .ok (.if_icmp .eq 456, 3) := by decide +kernel
theorem dL_law_789 : decode cL_law 789 = .ok (.iconst 0, 1) := by decide +kernel
theorem dL_law_790 : decode cL_law 790 = .ok (.ireturn, 1) := by decide +kernel
theorem dL_law_791 : decode cL_law 791 = .ok (.aload_n 1, 1) := by decide +kernel
theorem dL_law_792 : decode cL_law 792 = .ok (.aload_n 0, 1) := by decide +kernel
theorem dL_law_793 : decode cL_law 793 = .ok (.iload_n 3, 1) := by decide +kernel
theorem dL_law_794 : decode cL_law 794 = .ok (.iconst 1, 1) := by decide +kernel
theorem dL_law_795 : decode cL_law 795 = .ok (.iadd, 1) := by decide +kernel
theorem dL_law_796 : decode cL_law 796 = .ok (.iaload, 1) := by decide +kernel
theorem dL_law_797 : decode cL_law 797 = .ok (.invokevirtual 109, 3) := by decide +kernel
theorem dL_law_800 : decode cL_law 800 = .ok (.aload_n 2, 1) := by decide +kernel
theorem dL_law_801 : decode cL_law 801 = .ok (.aload_n 0, 1) := by decide +kernel
theorem dL_law_802 : decode cL_law 802 = .ok (.iload_n 3, 1) := by decide +kernel
theorem dL_law_803 : decode cL_law 803 = .ok (.iconst 1, 1) := by decide +kernel
theorem dL_law_804 : decode cL_law 804 = .ok (.iadd, 1) := by decide +kernel
theorem dL_law_805 : decode cL_law 805 = .ok (.iaload, 1) := by decide +kernel
theorem dL_law_806 : decode cL_law 806 = .ok (.invokevirtual 112, 3) := by decide +kernel
theorem dL_law_809 : decode cL_law 809 = .ok (.if_icmp .eq 433, 3) := by decide +kernel
theorem dL_law_812 : decode cL_law 812 = .ok (.iconst 0, 1) := by decide +kernel
theorem dL_law_813 : decode cL_law 813 = .ok (.ireturn, 1) := by decide +kernel
theorem dL_law_814 : decode cL_law 814 = .ok (.aload_n 1, 1) := by decide +kernel
theorem dL_law_815 : decode cL_law 815 = .ok (.aload_n 0, 1) := by decide +kernel
theorem dL_law_816 : decode cL_law 816 = .ok (.iload_n 3, 1) := by decide +kernel
theorem dL_law_817 : decode cL_law 817 = .ok (.iconst 1, 1) := by decide +kernel
theorem dL_law_818 : decode cL_law 818 = .ok (.iadd, 1) := by decide +kernel
theorem dL_law_819 : decode cL_law 819 = .ok (.iaload, 1) := by decide +kernel
theorem dL_law_820 : decode cL_law 820 = .ok (.aload_n 0, 1) := by decide +kernel
theorem dL_law_821 : decode cL_law 821 = .ok (.iload_n 3, 1) := by decide +kernel
theorem dL_law_822 : decode cL_law 822 = .ok (.iconst 2, 1) := by decide +kernel
theorem dL_law_823 : decode cL_law 823 = .ok (.iadd, 1) := by decide +kernel
theorem dL_law_824 : decode cL_law 824 = .ok (.iaload, 1) := by decide +kernel
theorem dL_law_825 : decode cL_law 825 = .ok (.invokevirtual 113, 3) := by decide +kernel
theorem dL_law_828 : decode cL_law 828 = .ok (.aload_n 2, 1) := by decide +kernel
theorem dL_law_829 : decode cL_law 829 = .ok (.aload_n 0, 1) := by decide +kernel
theorem dL_law_830 : decode cL_law 830 = .ok (.iload_n 3, 1) := by decide +kernel
theorem dL_law_831 : decode cL_law 831 = .ok (.iconst 1, 1) := by decide +kernel
theorem dL_law_832 : decode cL_law 832 = .ok (.iadd, 1) := by decide +kernel
theorem dL_law_833 : decode cL_law 833 = .ok (.iaload, 1) := by decide +kernel
theorem dL_law_834 : decode cL_law 834 = .ok (.aload_n 0, 1) := by decide +kernel
theorem dL_law_835 : decode cL_law 835 = .ok (.iload_n 3, 1) := by decide +kernel
theorem dL_law_836 : decode cL_law 836 = .ok (.iconst 2, 1) := by decide +kernel
theorem dL_law_837 : decode cL_law 837 = .ok (.iadd, 1) := by decide +kernel
theorem dL_law_838 : decode cL_law 838 = .ok (.iaload, 1) := by decide +kernel
theorem dL_law_839 : decode cL_law 839 = .ok (.invokevirtual 116, 3) := by decide +kernel
theorem dL_law_842 : decode cL_law 842 = .ok (.if_icmp .eq 400, 3) := by decide +kernel
theorem dL_law_845 : decode cL_law 845 = .ok (.iconst 0, 1) := by decide +kernel
theorem dL_law_846 : decode cL_law 846 = .ok (.ireturn, 1) := by decide +kernel
theorem dL_law_847 : decode cL_law 847 = .ok (.aload_n 1, 1) := by decide +kernel
theorem dL_law_848 : decode cL_law 848 = .ok (.aload_n 0, 1) := by decide +kernel
theorem dL_law_849 : decode cL_law 849 = .ok (.iload_n 3, 1) := by decide +kernel
theorem dL_law_850 : decode cL_law 850 = .ok (.iconst 1, 1) := by decide +kernel
theorem dL_law_851 : decode cL_law 851 = .ok (.iadd, 1) := by decide +kernel
theorem dL_law_852 : decode cL_law 852 = .ok (.iaload, 1) := by decide +kernel
theorem dL_law_853 : decode cL_law 853 = .ok (.invokevirtual 117, 3) := by decide +kernel
theorem dL_law_856 : decode cL_law 856 = .ok (.aload_n 2, 1) := by decide +kernel
theorem dL_law_857 : decode cL_law 857 = .ok (.aload_n 0, 1) := by decide +kernel
theorem dL_law_858 : decode cL_law 858 = .ok (.iload_n 3, 1) := by decide +kernel
theorem dL_law_859 : decode cL_law 859 = .ok (.iconst 1, 1) := by decide +kernel
theorem dL_law_860 : decode cL_law 860 = .ok (.iadd, 1) := by decide +kernel
theorem dL_law_861 : decode cL_law 861 = .ok (.iaload, 1) := by decide +kernel
theorem dL_law_862 : decode cL_law 862 = .ok (.invokevirtual 120, 3) := by decide +kernel
theorem dL_law_865 : decode cL_law 865 = .ok (.if_icmp .eq 377, 3) := by decide +kernel
theorem dL_law_868 : decode cL_law 868 = .ok (.iconst 0, 1) := by decide +kernel
theorem dL_law_869 : decode cL_law 869 = .ok (.ireturn, 1) := by decide +kernel
theorem dL_law_870 : decode cL_law 870 = .ok (.aload_n 1, 1) := by decide +kernel
theorem dL_law_871 : decode cL_law 871 = .ok (.aload_n 0, 1) := by decide +kernel
theorem dL_law_872 : decode cL_law 872 = .ok (.iload_n 3, 1) := by decide +kernel
theorem dL_law_873 : decode cL_law 873 = .ok (.iconst 1, 1) := by decide +kernel
theorem dL_law_874 : decode cL_law 874 = .ok (.iadd, 1) := by decide +kernel
theorem dL_law_875 : decode cL_law 875 = .ok (.iaload, 1) := by decide +kernel
theorem dL_law_876 : decode cL_law 876 = .ok (.aload_n 0, 1) := by decide +kernel
theorem dL_law_877 : decode cL_law 877 = .ok (.iload_n 3, 1) := by decide +kernel
theorem dL_law_878 : decode cL_law 878 = .ok (.iconst 2, 1) := by decide +kernel
theorem dL_law_879 : decode cL_law 879 = .ok (.iadd, 1) := by decide +kernel
theorem dL_law_880 : decode cL_law 880 = .ok (.iaload, 1) := by decide +kernel
theorem dL_law_881 : decode cL_law 881 = .ok (.aload_n 0, 1) := by decide +kernel
theorem dL_law_882 : decode cL_law 882 = .ok (.iload_n 3, 1) := by decide +kernel
theorem dL_law_883 : decode cL_law 883 = .ok (.iconst 3, 1) := by decide +kernel
theorem dL_law_884 : decode cL_law 884 = .ok (.iadd, 1) := by decide +kernel
theorem dL_law_885 : decode cL_law 885 = .ok (.iaload, 1) := by decide +kernel
theorem dL_law_886 : decode cL_law 886 = .ok (.invokevirtual 121, 3) := by decide +kernel
theorem dL_law_889 : decode cL_law 889 = .ok (.aload_n 2, 1) := by decide +kernel
theorem dL_law_890 : decode cL_law 890 = .ok (.aload_n 0, 1) := by decide +kernel
theorem dL_law_891 : decode cL_law 891 = .ok (.iload_n 3, 1) := by decide +kernel
theorem dL_law_892 : decode cL_law 892 = .ok (.iconst 1, 1) := by decide +kernel
theorem dL_law_893 : decode cL_law 893 = .ok (.iadd, 1) := by decide +kernel
theorem dL_law_894 : decode cL_law 894 = .ok (.iaload, 1) := by decide +kernel
theorem dL_law_895 : decode cL_law 895 = .ok (.aload_n 0, 1) := by decide +kernel
theorem dL_law_896 : decode cL_law 896 = .ok (.iload_n 3, 1) := by decide +kernel
theorem dL_law_897 : decode cL_law 897 = .ok (.iconst 2, 1) := by decide +kernel
theorem dL_law_898 : decode cL_law 898 = .ok (.iadd, 1) := by decide +kernel
theorem dL_law_899 : decode cL_law 899 = .ok (.iaload, 1) := by decide +kernel
theorem dL_law_900 : decode cL_law 900 = .ok (.aload_n 0, 1) := by decide +kernel
theorem dL_law_901 : decode cL_law 901 = .ok (.iload_n 3, 1) := by decide +kernel
theorem dL_law_902 : decode cL_law 902 = .ok (.iconst 3, 1) := by decide +kernel
theorem dL_law_903 : decode cL_law 903 = .ok (.iadd, 1) := by decide +kernel
theorem dL_law_904 : decode cL_law 904 = .ok (.iaload, 1) := by decide +kernel
theorem dL_law_905 : decode cL_law 905 = .ok (.invokevirtual 125, 3) := by decide +kernel
theorem dL_law_908 : decode cL_law 908 = .ok (.lcmp, 1) := by decide +kernel
theorem dL_law_909 : decode cL_law 909 = .ok (.ifCond .eq 333, 3) := by decide +kernel
theorem dL_law_912 : decode cL_law 912 = .ok (.iconst 0, 1) := by decide +kernel
theorem dL_law_913 : decode cL_law 913 = .ok (.ireturn, 1) := by decide +kernel
theorem dL_law_914 : decode cL_law 914 = .ok (.aload_n 1, 1) := by decide +kernel
theorem dL_law_915 : decode cL_law 915 = .ok (.aload_n 0, 1) := by decide +kernel
theorem dL_law_916 : decode cL_law 916 = .ok (.iload_n 3, 1) := by decide +kernel
theorem dL_law_917 : decode cL_law 917 = .ok (.iconst 1, 1) := by decide +kernel
theorem dL_law_918 : decode cL_law 918 = .ok (.iadd, 1) := by decide +kernel
theorem dL_law_919 : decode cL_law 919 = .ok (.iaload, 1) := by decide +kernel
theorem dL_law_920 : decode cL_law 920 = .ok (.aload_n 0, 1) := by decide +kernel
theorem dL_law_921 : decode cL_law 921 = .ok (.iload_n 3, 1) := by decide +kernel
theorem dL_law_922 : decode cL_law 922 = .ok (.iconst 2, 1) := by decide +kernel
theorem dL_law_923 : decode cL_law 923 = .ok (.iadd, 1) := by decide +kernel
theorem dL_law_924 : decode cL_law 924 = .ok (.iaload, 1) := by decide +kernel
theorem dL_law_925 : decode cL_law 925 = .ok (.invokevirtual 126, 3) := by decide +kernel
theorem dL_law_928 : decode cL_law 928 = .ok (.aload_n 2, 1) := by decide +kernel
theorem dL_law_929 : decode cL_law 929 = .ok (.aload_n 0, 1) := by decide +kernel
theorem dL_law_930 : decode cL_law 930 = .ok (.iload_n 3, 1) := by decide +kernel
theorem dL_law_931 : decode cL_law 931 = .ok (.iconst 1, 1) := by decide +kernel
theorem dL_law_932 : decode cL_law 932 = .ok (.iadd, 1) := by decide +kernel
theorem dL_law_933 : decode cL_law 933 = .ok (.iaload, 1) := by decide +kernel
theorem dL_law_934 : decode cL_law 934 = .ok (.aload_n 0, 1) := by decide +kernel
theorem dL_law_935 : decode cL_law 935 = .ok (.iload_n 3, 1) := by decide +kernel
theorem dL_law_936 : decode cL_law 936 = .ok (.iconst 2, 1) := by decide +kernel
theorem dL_law_937 : decode cL_law 937 = .ok (.iadd, 1) := by decide +kernel
theorem dL_law_938 : decode cL_law 938 = .ok (.iaload, 1) := by decide +kernel
theorem dL_law_939 : decode cL_law 939 = .ok (.invokevirtual 129, 3) := by decide +kernel
theorem dL_law_942 : decode cL_law 942 = .ok (.if_icmp .eq 300, 3) := by decide +kernel
theorem dL_law_945 : decode cL_law 945 = .ok (.iconst 0, 1) := by decide +kernel
theorem dL_law_946 : decode cL_law 946 = .ok (.ireturn, 1) := by decide +kernel
theorem dL_law_947 : decode cL_law 947 = .ok (.aload_n 1, 1) := by decide +kernel
theorem dL_law_948 : decode cL_law 948 = .ok (.aload_n 0, 1) := by decide +kernel
theorem dL_law_949 : decode cL_law 949 = .ok (.iload_n 3, 1) := by decide +kernel
theorem dL_law_950 : decode cL_law 950 = .ok (.iconst 1, 1) := by decide +kernel
theorem dL_law_951 : decode cL_law 951 = .ok (.iadd, 1) := by decide +kernel
theorem dL_law_952 : decode cL_law 952 = .ok (.iaload, 1) := by decide +kernel
theorem dL_law_953 : decode cL_law 953 = .ok (.aload_n 0, 1) := by decide +kernel
theorem dL_law_954 : decode cL_law 954 = .ok (.iload_n 3, 1) := by decide +kernel
theorem dL_law_955 : decode cL_law 955 = .ok (.iconst 2, 1) := by decide +kernel
theorem dL_law_956 : decode cL_law 956 = .ok (.iadd, 1) := by decide +kernel
theorem dL_law_957 : decode cL_law 957 = .ok (.iaload, 1) := by decide +kernel
theorem dL_law_958 : decode cL_law 958 = .ok (.aload_n 0, 1) := by decide +kernel
theorem dL_law_959 : decode cL_law 959 = .ok (.iload_n 3, 1) := by decide +kernel
theorem dL_law_960 : decode cL_law 960 = .ok (.iconst 3, 1) := by decide +kernel
theorem dL_law_961 : decode cL_law 961 = .ok (.iadd, 1) := by decide +kernel
theorem dL_law_962 : decode cL_law 962 = .ok (.iaload, 1) := by decide +kernel
theorem dL_law_963 : decode cL_law 963 = .ok (.invokevirtual 130, 3) := by decide +kernel
theorem dL_law_966 : decode cL_law 966 = .ok (.aload_n 2, 1) := by decide +kernel
theorem dL_law_967 : decode cL_law 967 = .ok (.aload_n 0, 1) := by decide +kernel
theorem dL_law_968 : decode cL_law 968 = .ok (.iload_n 3, 1) := by decide +kernel
theorem dL_law_969 : decode cL_law 969 = .ok (.iconst 1, 1) := by decide +kernel
theorem dL_law_970 : decode cL_law 970 = .ok (.iadd, 1) := by decide +kernel
theorem dL_law_971 : decode cL_law 971 = .ok (.iaload, 1) := by decide +kernel
theorem dL_law_972 : decode cL_law 972 = .ok (.aload_n 0, 1) := by decide +kernel
theorem dL_law_973 : decode cL_law 973 = .ok (.iload_n 3, 1) := by decide +kernel
theorem dL_law_974 : decode cL_law 974 = .ok (.iconst 2, 1) := by decide +kernel
theorem dL_law_975 : decode cL_law 975 = .ok (.iadd, 1) := by decide +kernel
theorem dL_law_976 : decode cL_law 976 = .ok (.iaload, 1) := by decide +kernel
theorem dL_law_977 : decode cL_law 977 = .ok (.aload_n 0, 1) := by decide +kernel
theorem dL_law_978 : decode cL_law 978 = .ok (.iload_n 3, 1) := by decide +kernel
theorem dL_law_979 : decode cL_law 979 = .ok (.iconst 3, 1) := by decide +kernel
theorem dL_law_980 : decode cL_law 980 = .ok (.iadd, 1) := by decide +kernel
theorem dL_law_981 : decode cL_law 981 = .ok (.iaload, 1) := by decide +kernel
theorem dL_law_982 : decode cL_law 982 = .ok (.invokevirtual 133, 3) := by decide +kernel
theorem dL_law_985 : decode cL_law 985 = .ok (.if_icmp .eq 257, 3) := by decide +kernel
theorem dL_law_988 : decode cL_law 988 = .ok (.iconst 0, 1) := by decide +kernel
theorem dL_law_989 : decode cL_law 989 = .ok (.ireturn, 1) := by decide +kernel
theorem dL_law_990 : decode cL_law 990 = .ok (.aload_n 1, 1) := by decide +kernel
theorem dL_law_991 : decode cL_law 991 = .ok (.aload_n 0, 1) := by decide +kernel
theorem dL_law_992 : decode cL_law 992 = .ok (.iload_n 3, 1) := by decide +kernel
theorem dL_law_993 : decode cL_law 993 = .ok (.iconst 1, 1) := by decide +kernel
theorem dL_law_994 : decode cL_law 994 = .ok (.iadd, 1) := by decide +kernel
theorem dL_law_995 : decode cL_law 995 = .ok (.iaload, 1) := by decide +kernel
theorem dL_law_996 : decode cL_law 996 = .ok (.invokevirtual 134, 3) := by decide +kernel
theorem dL_law_999 : decode cL_law 999 = .ok (.aload_n 2, 1) := by decide +kernel
theorem dL_law_1000 : decode cL_law 1000 = .ok (.aload_n 0, 1) := by decide +kernel
theorem dL_law_1001 : decode cL_law 1001 = .ok (.iload_n 3, 1) := by decide +kernel
theorem dL_law_1002 : decode cL_law 1002 = .ok (.iconst 1, 1) := by decide +kernel
theorem dL_law_1003 : decode cL_law 1003 = .ok (.iadd, 1) := by decide +kernel
theorem dL_law_1004 : decode cL_law 1004 = .ok (.iaload, 1) := by decide +kernel
theorem dL_law_1005 : decode cL_law 1005 = .ok (.invokevirtual 137, 3) := by decide +kernel
theorem dL_law_1008 : decode cL_law 1008 = .ok (.if_icmp .eq 234, 3) := by decide +kernel
theorem dL_law_1011 : decode cL_law 1011 = .ok (.iconst 0, 1) := by decide +kernel
theorem dL_law_1012 : decode cL_law 1012 = .ok (.ireturn, 1) := by decide +kernel
theorem dL_law_1013 : decode cL_law 1013 = .ok (.aload_n 1, 1) := by decide +kernel
theorem dL_law_1014 : decode cL_law 1014 = .ok (.aload_n 0, 1) := by decide +kernel
theorem dL_law_1015 : decode cL_law 1015 = .ok (.iload_n 3, 1) := by decide +kernel
theorem dL_law_1016 : decode cL_law 1016 = .ok (.iconst 1, 1) := by decide +kernel
theorem dL_law_1017 : decode cL_law 1017 = .ok (.iadd, 1) := by decide +kernel
theorem dL_law_1018 : decode cL_law 1018 = .ok (.iaload, 1) := by decide +kernel
theorem dL_law_1019 : decode cL_law 1019 = .ok (.aload_n 0, 1) := by decide +kernel
theorem dL_law_1020 : decode cL_law 1020 = .ok (.iload_n 3, 1) := by decide +kernel
theorem dL_law_1021 : decode cL_law 1021 = .ok (.iconst 2, 1) := by decide +kernel
theorem dL_law_1022 : decode cL_law 1022 = .ok (.iadd, 1) := by decide +kernel
theorem dL_law_1023 : decode cL_law 1023 = .ok (.iaload, 1) := by decide +kernel
theorem dL_law_1024 : decode cL_law 1024 = .ok (.aload_n 0, 1) := by decide +kernel
theorem dL_law_1025 : decode cL_law 1025 = .ok (.iload_n 3, 1) := by decide +kernel
theorem dL_law_1026 : decode cL_law 1026 = .ok (.iconst 3, 1) := by decide +kernel
theorem dL_law_1027 : decode cL_law 1027 = .ok (.iadd, 1) := by decide +kernel
theorem dL_law_1028 : decode cL_law 1028 = .ok (.iaload, 1) := by decide +kernel
theorem dL_law_1029 : decode cL_law 1029 = .ok (.aload_n 0, 1) := by decide +kernel
theorem dL_law_1030 : decode cL_law 1030 = .ok (.iload_n 3, 1) := by decide +kernel
theorem dL_law_1031 : decode cL_law 1031 = .ok (.iconst 4, 1) := by decide +kernel
theorem dL_law_1032 : decode cL_law 1032 = .ok (.iadd, 1) := by decide +kernel
theorem dL_law_1033 : decode cL_law 1033 = .ok (.iaload, 1) := by decide +kernel
theorem dL_law_1034 : decode cL_law 1034 = .ok (.invokevirtual 138, 3) := by decide +kernel
theorem dL_law_1037 : decode cL_law 1037 = .ok (.aload_n 2, 1) := by decide +kernel
theorem dL_law_1038 : decode cL_law 1038 = .ok (.aload_n 0, 1) := by decide +kernel
theorem dL_law_1039 : decode cL_law 1039 = .ok (.iload_n 3, 1) := by decide +kernel
theorem dL_law_1040 : decode cL_law 1040 = .ok (.iconst 1, 1) := by decide +kernel
theorem dL_law_1041 : decode cL_law 1041 = .ok (.iadd, 1) := by decide +kernel
theorem dL_law_1042 : decode cL_law 1042 = .ok (.iaload, 1) := by decide +kernel
theorem dL_law_1043 : decode cL_law 1043 = .ok (.aload_n 0, 1) := by decide +kernel
theorem dL_law_1044 : decode cL_law 1044 = .ok (.iload_n 3, 1) := by decide +kernel
theorem dL_law_1045 : decode cL_law 1045 = .ok (.iconst 2, 1) := by decide +kernel
theorem dL_law_1046 : decode cL_law 1046 = .ok (.iadd, 1) := by decide +kernel
theorem dL_law_1047 : decode cL_law 1047 = .ok (.iaload, 1) := by decide +kernel
theorem dL_law_1048 : decode cL_law 1048 = .ok (.aload_n 0, 1) := by decide +kernel
theorem dL_law_1049 : decode cL_law 1049 = .ok (.iload_n 3, 1) := by decide +kernel
theorem dL_law_1050 : decode cL_law 1050 = .ok (.iconst 3, 1) := by decide +kernel
theorem dL_law_1051 : decode cL_law 1051 = .ok (.iadd, 1) := by decide +kernel
theorem dL_law_1052 : decode cL_law 1052 = .ok (.iaload, 1) := by decide +kernel
theorem dL_law_1053 : decode cL_law 1053 = .ok (.aload_n 0, 1) := by decide +kernel
theorem dL_law_1054 : decode cL_law 1054 = .ok (.iload_n 3, 1) := by decide +kernel
theorem dL_law_1055 : decode cL_law 1055 = .ok (.iconst 4, 1) := by decide +kernel
theorem dL_law_1056 : decode cL_law 1056 = .ok (.iadd, 1) := by decide +kernel
theorem dL_law_1057 : decode cL_law 1057 = .ok (.iaload, 1) := by decide +kernel
theorem dL_law_1058 : decode cL_law 1058 = .ok (.invokevirtual 142, 3) := by decide +kernel
theorem dL_law_1061 : decode cL_law 1061 = .ok (.if_icmp .eq 181, 3) := by decide +kernel
theorem dL_law_1064 : decode cL_law 1064 = .ok (.iconst 0, 1) := by decide +kernel
theorem dL_law_1065 : decode cL_law 1065 = .ok (.ireturn, 1) := by decide +kernel
theorem dL_law_1066 : decode cL_law 1066 = .ok (.aload_n 1, 1) := by decide +kernel
theorem dL_law_1067 : decode cL_law 1067 = .ok (.aload_n 0, 1) := by decide +kernel
theorem dL_law_1068 : decode cL_law 1068 = .ok (.iload_n 3, 1) := by decide +kernel
theorem dL_law_1069 : decode cL_law 1069 = .ok (.iconst 1, 1) := by decide +kernel
theorem dL_law_1070 : decode cL_law 1070 = .ok (.iadd, 1) := by decide +kernel
theorem dL_law_1071 : decode cL_law 1071 = .ok (.iaload, 1) := by decide +kernel
theorem dL_law_1072 : decode cL_law 1072 = .ok (.aload_n 0, 1) := by decide +kernel
theorem dL_law_1073 : decode cL_law 1073 = .ok (.iload_n 3, 1) := by decide +kernel
theorem dL_law_1074 : decode cL_law 1074 = .ok (.iconst 2, 1) := by decide +kernel
theorem dL_law_1075 : decode cL_law 1075 = .ok (.iadd, 1) := by decide +kernel
theorem dL_law_1076 : decode cL_law 1076 = .ok (.iaload, 1) := by decide +kernel
theorem dL_law_1077 : decode cL_law 1077 = .ok (.aload_n 0, 1) := by decide +kernel
theorem dL_law_1078 : decode cL_law 1078 = .ok (.iload_n 3, 1) := by decide +kernel
theorem dL_law_1079 : decode cL_law 1079 = .ok (.iconst 3, 1) := by decide +kernel
theorem dL_law_1080 : decode cL_law 1080 = .ok (.iadd, 1) := by decide +kernel
theorem dL_law_1081 : decode cL_law 1081 = .ok (.iaload, 1) := by decide +kernel
theorem dL_law_1082 : decode cL_law 1082 = .ok (.invokevirtual 143, 3) := by decide +kernel
theorem dL_law_1085 : decode cL_law 1085 = .ok (.aload_n 2, 1) := by decide +kernel
theorem dL_law_1086 : decode cL_law 1086 = .ok (.aload_n 0, 1) := by decide +kernel
theorem dL_law_1087 : decode cL_law 1087 = .ok (.iload_n 3, 1) := by decide +kernel
theorem dL_law_1088 : decode cL_law 1088 = .ok (.iconst 1, 1) := by decide +kernel
theorem dL_law_1089 : decode cL_law 1089 = .ok (.iadd, 1) := by decide +kernel
theorem dL_law_1090 : decode cL_law 1090 = .ok (.iaload, 1) := by decide +kernel
theorem dL_law_1091 : decode cL_law 1091 = .ok (.aload_n 0, 1) := by decide +kernel
theorem dL_law_1092 : decode cL_law 1092 = .ok (.iload_n 3, 1) := by decide +kernel
theorem dL_law_1093 : decode cL_law 1093 = .ok (.iconst 2, 1) := by decide +kernel
theorem dL_law_1094 : decode cL_law 1094 = .ok (.iadd, 1) := by decide +kernel
theorem dL_law_1095 : decode cL_law 1095 = .ok (.iaload, 1) := by decide +kernel
theorem dL_law_1096 : decode cL_law 1096 = .ok (.aload_n 0, 1) := by decide +kernel
theorem dL_law_1097 : decode cL_law 1097 = .ok (.iload_n 3, 1) := by decide +kernel
theorem dL_law_1098 : decode cL_law 1098 = .ok (.iconst 3, 1) := by decide +kernel
theorem dL_law_1099 : decode cL_law 1099 = .ok (.iadd, 1) := by decide +kernel
theorem dL_law_1100 : decode cL_law 1100 = .ok (.iaload, 1) := by decide +kernel
theorem dL_law_1101 : decode cL_law 1101 = .ok (.invokevirtual 146, 3) := by decide +kernel
theorem dL_law_1104 : decode cL_law 1104 = .ok (.if_icmp .eq 138, 3) := by decide +kernel
theorem dL_law_1107 : decode cL_law 1107 = .ok (.iconst 0, 1) := by decide +kernel
theorem dL_law_1108 : decode cL_law 1108 = .ok (.ireturn, 1) := by decide +kernel
theorem dL_law_1109 : decode cL_law 1109 = .ok (.aload_n 1, 1) := by decide +kernel
theorem dL_law_1110 : decode cL_law 1110 = .ok (.aload_n 0, 1) := by decide +kernel
theorem dL_law_1111 : decode cL_law 1111 = .ok (.iload_n 3, 1) := by decide +kernel
theorem dL_law_1112 : decode cL_law 1112 = .ok (.iconst 1, 1) := by decide +kernel
theorem dL_law_1113 : decode cL_law 1113 = .ok (.iadd, 1) := by decide +kernel
theorem dL_law_1114 : decode cL_law 1114 = .ok (.iaload, 1) := by decide +kernel
theorem dL_law_1115 : decode cL_law 1115 = .ok (.aload_n 0, 1) := by decide +kernel
theorem dL_law_1116 : decode cL_law 1116 = .ok (.iload_n 3, 1) := by decide +kernel
theorem dL_law_1117 : decode cL_law 1117 = .ok (.iconst 2, 1) := by decide +kernel
theorem dL_law_1118 : decode cL_law 1118 = .ok (.iadd, 1) := by decide +kernel
theorem dL_law_1119 : decode cL_law 1119 = .ok (.iaload, 1) := by decide +kernel
theorem dL_law_1120 : decode cL_law 1120 = .ok (.aload_n 0, 1) := by decide +kernel
theorem dL_law_1121 : decode cL_law 1121 = .ok (.iload_n 3, 1) := by decide +kernel
theorem dL_law_1122 : decode cL_law 1122 = .ok (.iconst 3, 1) := by decide +kernel
theorem dL_law_1123 : decode cL_law 1123 = .ok (.iadd, 1) := by decide +kernel
theorem dL_law_1124 : decode cL_law 1124 = .ok (.iaload, 1) := by decide +kernel
theorem dL_law_1125 : decode cL_law 1125 = .ok (.aload_n 0, 1) := by decide +kernel
theorem dL_law_1126 : decode cL_law 1126 = .ok (.iload_n 3, 1) := by decide +kernel
theorem dL_law_1127 : decode cL_law 1127 = .ok (.iconst 4, 1) := by decide +kernel
theorem dL_law_1128 : decode cL_law 1128 = .ok (.iadd, 1) := by decide +kernel
theorem dL_law_1129 : decode cL_law 1129 = .ok (.iaload, 1) := by decide +kernel
theorem dL_law_1130 : decode cL_law 1130 = .ok (.aload_n 0, 1) := by decide +kernel
theorem dL_law_1131 : decode cL_law 1131 = .ok (.iload_n 3, 1) := by decide +kernel
theorem dL_law_1132 : decode cL_law 1132 = .ok (.iconst 5, 1) := by decide +kernel
theorem dL_law_1133 : decode cL_law 1133 = .ok (.iadd, 1) := by decide +kernel
theorem dL_law_1134 : decode cL_law 1134 = .ok (.iaload, 1) := by decide +kernel
theorem dL_law_1135 : decode cL_law 1135 = .ok (.invokevirtual 147, 3) := by decide +kernel
theorem dL_law_1138 : decode cL_law 1138 = .ok (.aload_n 2, 1) := by decide +kernel
theorem dL_law_1139 : decode cL_law 1139 = .ok (.aload_n 0, 1) := by decide +kernel
theorem dL_law_1140 : decode cL_law 1140 = .ok (.iload_n 3, 1) := by decide +kernel
theorem dL_law_1141 : decode cL_law 1141 = .ok (.iconst 1, 1) := by decide +kernel
theorem dL_law_1142 : decode cL_law 1142 = .ok (.iadd, 1) := by decide +kernel
theorem dL_law_1143 : decode cL_law 1143 = .ok (.iaload, 1) := by decide +kernel
theorem dL_law_1144 : decode cL_law 1144 = .ok (.aload_n 0, 1) := by decide +kernel
theorem dL_law_1145 : decode cL_law 1145 = .ok (.iload_n 3, 1) := by decide +kernel
theorem dL_law_1146 : decode cL_law 1146 = .ok (.iconst 2, 1) := by decide +kernel
theorem dL_law_1147 : decode cL_law 1147 = .ok (.iadd, 1) := by decide +kernel
theorem dL_law_1148 : decode cL_law 1148 = .ok (.iaload, 1) := by decide +kernel
theorem dL_law_1149 : decode cL_law 1149 = .ok (.aload_n 0, 1) := by decide +kernel
theorem dL_law_1150 : decode cL_law 1150 = .ok (.iload_n 3, 1) := by decide +kernel
theorem dL_law_1151 : decode cL_law 1151 = .ok (.iconst 3, 1) := by decide +kernel
theorem dL_law_1152 : decode cL_law 1152 = .ok (.iadd, 1) := by decide +kernel
theorem dL_law_1153 : decode cL_law 1153 = .ok (.iaload, 1) := by decide +kernel
theorem dL_law_1154 : decode cL_law 1154 = .ok (.aload_n 0, 1) := by decide +kernel
theorem dL_law_1155 : decode cL_law 1155 = .ok (.iload_n 3, 1) := by decide +kernel
theorem dL_law_1156 : decode cL_law 1156 = .ok (.iconst 4, 1) := by decide +kernel
theorem dL_law_1157 : decode cL_law 1157 = .ok (.iadd, 1) := by decide +kernel
theorem dL_law_1158 : decode cL_law 1158 = .ok (.iaload, 1) := by decide +kernel
theorem dL_law_1159 : decode cL_law 1159 = .ok (.aload_n 0, 1) := by decide +kernel
theorem dL_law_1160 : decode cL_law 1160 = .ok (.iload_n 3, 1) := by decide +kernel
theorem dL_law_1161 : decode cL_law 1161 = .ok (.iconst 5, 1) := by decide +kernel
theorem dL_law_1162 : decode cL_law 1162 = .ok (.iadd, 1) := by decide +kernel
theorem dL_law_1163 : decode cL_law 1163 = .ok (.iaload, 1) := by decide +kernel
theorem dL_law_1164 : decode cL_law 1164 = .ok (.invokevirtual 151, 3) := by decide +kernel
theorem dL_law_1167 : decode cL_law 1167 = .ok (.if_icmp .eq 75, 3) := by decide +kernel
theorem dL_law_1170 : decode cL_law 1170 = .ok (.iconst 0, 1) := by decide +kernel
theorem dL_law_1171 : decode cL_law 1171 = .ok (.ireturn, 1) := by decide +kernel
theorem dL_law_1172 : decode cL_law 1172 = .ok (.aload_n 1, 1) := by decide +kernel
theorem dL_law_1173 : decode cL_law 1173 = .ok (.aload_n 0, 1) := by decide +kernel
theorem dL_law_1174 : decode cL_law 1174 = .ok (.iload_n 3, 1) := by decide +kernel
theorem dL_law_1175 : decode cL_law 1175 = .ok (.iconst 1, 1) := by decide +kernel
theorem dL_law_1176 : decode cL_law 1176 = .ok (.iadd, 1) := by decide +kernel
theorem dL_law_1177 : decode cL_law 1177 = .ok (.iaload, 1) := by decide +kernel
theorem dL_law_1178 : decode cL_law 1178 = .ok (.aload_n 0, 1) := by decide +kernel
theorem dL_law_1179 : decode cL_law 1179 = .ok (.iload_n 3, 1) := by decide +kernel
theorem dL_law_1180 : decode cL_law 1180 = .ok (.iconst 2, 1) := by decide +kernel
theorem dL_law_1181 : decode cL_law 1181 = .ok (.iadd, 1) := by decide +kernel
theorem dL_law_1182 : decode cL_law 1182 = .ok (.iaload, 1) := by decide +kernel
theorem dL_law_1183 : decode cL_law 1183 = .ok (.invokevirtual 152, 3) := by decide +kernel
theorem dL_law_1186 : decode cL_law 1186 = .ok (.aload_n 2, 1) := by decide +kernel
theorem dL_law_1187 : decode cL_law 1187 = .ok (.aload_n 0, 1) := by decide +kernel
theorem dL_law_1188 : decode cL_law 1188 = .ok (.iload_n 3, 1) := by decide +kernel
theorem dL_law_1189 : decode cL_law 1189 = .ok (.iconst 1, 1) := by decide +kernel
theorem dL_law_1190 : decode cL_law 1190 = .ok (.iadd, 1) := by decide +kernel
theorem dL_law_1191 : decode cL_law 1191 = .ok (.iaload, 1) := by decide +kernel
theorem dL_law_1192 : decode cL_law 1192 = .ok (.aload_n 0, 1) := by decide +kernel
theorem dL_law_1193 : decode cL_law 1193 = .ok (.iload_n 3, 1) := by decide +kernel
theorem dL_law_1194 : decode cL_law 1194 = .ok (.iconst 2, 1) := by decide +kernel
theorem dL_law_1195 : decode cL_law 1195 = .ok (.iadd, 1) := by decide +kernel
theorem dL_law_1196 : decode cL_law 1196 = .ok (.iaload, 1) := by decide +kernel
theorem dL_law_1197 : decode cL_law 1197 = .ok (.invokevirtual 155, 3) := by decide +kernel
theorem dL_law_1200 : decode cL_law 1200 = .ok (.if_icmp .eq 42, 3) := by decide +kernel
theorem dL_law_1203 : decode cL_law 1203 = .ok (.iconst 0, 1) := by decide +kernel
theorem dL_law_1204 : decode cL_law 1204 = .ok (.ireturn, 1) := by decide +kernel
theorem dL_law_1205 : decode cL_law 1205 = .ok (.aload_n 1, 1) := by decide +kernel
theorem dL_law_1206 : decode cL_law 1206 = .ok (.aload_n 0, 1) := by decide +kernel
theorem dL_law_1207 : decode cL_law 1207 = .ok (.iload_n 3, 1) := by decide +kernel
theorem dL_law_1208 : decode cL_law 1208 = .ok (.iconst 1, 1) := by decide +kernel
theorem dL_law_1209 : decode cL_law 1209 = .ok (.iadd, 1) := by decide +kernel
theorem dL_law_1210 : decode cL_law 1210 = .ok (.iaload, 1) := by decide +kernel
theorem dL_law_1211 : decode cL_law 1211 = .ok (.invokevirtual 156, 3) := by decide +kernel
theorem dL_law_1214 : decode cL_law 1214 = .ok (.aload_n 2, 1) := by decide +kernel
theorem dL_law_1215 : decode cL_law 1215 = .ok (.aload_n 0, 1) := by decide +kernel
theorem dL_law_1216 : decode cL_law 1216 = .ok (.iload_n 3, 1) := by decide +kernel
theorem dL_law_1217 : decode cL_law 1217 = .ok (.iconst 1, 1) := by decide +kernel
theorem dL_law_1218 : decode cL_law 1218 = .ok (.iadd, 1) := by decide +kernel
theorem dL_law_1219 : decode cL_law 1219 = .ok (.iaload, 1) := by decide +kernel
theorem dL_law_1220 : decode cL_law 1220 = .ok (.invokevirtual 159, 3) := by decide +kernel
theorem dL_law_1223 : decode cL_law 1223 = .ok (.if_icmp .eq 19, 3) := by decide +kernel
theorem dL_law_1226 : decode cL_law 1226 = .ok (.iconst 0, 1) := by decide +kernel
theorem dL_law_1227 : decode cL_law 1227 = .ok (.ireturn, 1) := by decide +kernel
theorem dL_law_1228 : decode cL_law 1228 = .ok (.aload_n 1, 1) := by decide +kernel
theorem dL_law_1229 : decode cL_law 1229 = .ok (.invokevirtual 160, 3) := by decide +kernel
theorem dL_law_1232 : decode cL_law 1232 = .ok (.aload_n 2, 1) := by decide +kernel
theorem dL_law_1233 : decode cL_law 1233 = .ok (.invokevirtual 164, 3) := by decide +kernel
theorem dL_law_1236 : decode cL_law 1236 = .ok (.lcmp, 1) := by decide +kernel
theorem dL_law_1237 : decode cL_law 1237 = .ok (.ifCond .eq 5, 3) := by decide +kernel
theorem dL_law_1240 : decode cL_law 1240 = .ok (.iconst 0, 1) := by decide +kernel
theorem dL_law_1241 : decode cL_law 1241 = .ok (.ireturn, 1) := by decide +kernel
theorem dL_law_1242 : decode cL_law 1242 = .ok (.iinc 3 6, 3) := by decide +kernel
theorem dL_law_1245 : decode cL_law 1245 = .ok (.goto (-1227), 3) := by decide +kernel
theorem dL_law_1248 : decode cL_law 1248 = .ok (.iconst 1, 1) := by decide +kernel
theorem dL_law_1249 : decode cL_law 1249 = .ok (.ireturn, 1) := by decide +kernel
end
section
/-! THE LIGHT LAYER. A heap is a tuple (S, I, L, R, N): of each object its shape, its ints, its longs, its references; N objects.
References are numbers: 0 the script, 1 and 2 the two static rows, 3 and on the objects in the order in which they were made. -/
abbrev aw_H : Type := (Nat → Nat × Nat) × (Nat → Nat → Int32) × (Nat → Nat → Int64) × (Nat → Nat → Option Nat) × Nat
/-- a method: name, code, locals, answer's type, number of its owner, frames, words of locals, cells, slots, is it a constructor -/
abbrev aw_MR : Type := MethodName × ByteArray × Nat × Option FieldType × Nat × Nat × Nat × Nat × Nat × Bool
abbrev aw_y (M : aw_MR) : MethodName := M.1
abbrev aw_c (M : aw_MR) : ByteArray := M.2.1
abbrev aw_nL (M : aw_MR) : Nat := M.2.2.1
abbrev aw_ret (M : aw_MR) : Option FieldType := M.2.2.2.1
abbrev aw_own (M : aw_MR) : Nat := M.2.2.2.2.1
abbrev aw_fr (M : aw_MR) : Nat := M.2.2.2.2.2.1
abbrev aw_lo (M : aw_MR) : Nat := M.2.2.2.2.2.2.1
abbrev aw_mc (M : aw_MR) : Nat := M.2.2.2.2.2.2.2.1
abbrev aw_ms (M : aw_MR) : Nat := M.2.2.2.2.2.2.2.2.1
abbrev aw_ini (M : aw_MR) : Bool := M.2.2.2.2.2.2.2.2.2
abbrev aw_rm (M : aw_MR) : Room := { frames := aw_fr M, cells := aw_mc M, slots := aw_ms M, locals := aw_lo M }
def aw_tbl : List Cond := lw_tbl.filter goodWord
def aw_isN : Cond → Bool
  | .methodLinkNest .. => true
  | .fieldLinkNest .. => true
  | _ => false
def aw_nst : List Cond := lw_tbl.filter aw_isN
def aw_nm : Nat → String := fun k => match k with
  | 0 => RX0 | 1 => RX1 | 2 => RX2 | 3 => RX3 | 4 => RX4 | 5 => RX5 | 6 => RX6 | 7 => RX7 | 8 => RX8 | 9 => RX9 | 10 => RX10 | 11 => RX11 | 12 => R_law | 13 => RJ9 | _ => RJ6
def aw_T : Nat → u_T := fun k => match k with
  | 0 => TX0 | 1 => TX1 | 2 => TX2 | 3 => TX3 | 4 => TX4 | 5 => TX5 | 6 => TX6 | 7 => TX7 | 8 => TX8 | 9 => TX9 | 10 => TX10 | _ => TX11
def aw_ty : Nat → Nat → FieldType := fun k => match k with
  | 0 => tyX0 | 1 => tyX1 | 2 => tyX2 | 3 => tyX3 | 4 => tyX4 | 5 => tyX5 | 6 => tyX6 | 7 => tyX7 | 8 => tyX8 | 9 => tyX9 | 10 => tyX10 | _ => tyX11
def aw_N : Nat → Nat := fun k => match k with
  | 0 => 3 | 1 => 7 | 2 => 3 | 3 => 13 | 4 => 5 | 5 => 7 | 6 => 12 | 7 => 10 | 8 => 4 | 9 => 6 | 10 => 10 | _ => 32
/-- what is fixed for a whole run: launch, class numbers and slots, the array classes, where a reference lies, where the objects begin, the read-only rows -/
abbrev aw_G : Type := Launch × va_G × (ClassId × ClassId × ClassId) × (Nat → Nat) × Nat × (Nat → Nat) × (Nat → Nat → Int32)
abbrev g_l (G : aw_G) : Launch := G.1
abbrev g_D (G : aw_G) : va_G := G.2.1
abbrev g_I (G : aw_G) : ClassId := G.2.2.1.1
abbrev g_L (G : aw_G) : ClassId := G.2.2.1.2.1
abbrev g_R (G : aw_G) : ClassId := G.2.2.1.2.2
abbrev g_ad (G : aw_G) : Nat → Nat := G.2.2.2.1
abbrev g_b (G : aw_G) : Nat := G.2.2.2.2.1
abbrev g_rn (G : aw_G) : Nat → Nat := G.2.2.2.2.2.1
abbrev g_ro (G : aw_G) : Nat → Nat → Int32 := G.2.2.2.2.2.2
def aw_cv (ad : Nat → Nat) : Value → Value
  | .ref a => .ref (ad a)
  | v => v
def aw_fv (ad : Nat → Nat) (h : aw_H) (o : Nat) (ty : FieldType) (j : Nat) : Value := match ty with
  | .int => .int (h.2.1 o j)
  | .boolean => .int (h.2.1 o j)
  | .long => .long (h.2.2.1 o j)
  | _ => va_rf ((h.2.2.2.1 o j).map ad)
def aw_en (G : aw_G) (h : aw_H) (o : Nat) : va_E := match h.1 o with
  | (0, n) => .inl (g_I G, n, .inl (h.2.1 o))
  | (1, n) => .inl (g_L G, n, .inr (.inl (h.2.2.1 o)))
  | (2, n) => .inl (g_R G, n, .inr (.inr (.inr (.inr (fun j => (h.2.2.2.1 o j).map (g_ad G))))))
  | (c + 3, _) => .inr (c, (List.range (aw_N c)).map (fun j => aw_fv (g_ad G) h o (aw_ty c j) j))
def aw_wl (G : aw_G) (h : aw_H) : va_W := (List.range h.2.2.2.2).map (fun i => (g_b G + i, aw_en G h (i + 3)))
def aw_Rep (G : aw_G) (h : aw_H) (H : Heap) : Prop := H.size = g_b G + h.2.2.2.2 ∧ va_P (g_D G) vwCl (aw_wl G h) H ∧ ∀ o, o < 3 → h.1 o = (0, g_rn G o) ∧ h.2.1 o = g_ro G o
abbrev aw_tys (G : aw_G) : List (ClassId × FieldType) := [(g_I G, .int), (g_L G, .long), (g_R G, .object RX8)]
def aw_A (G : aw_G) : Nat → Prop := fun q => g_b G ≤ q
def aw_Fx (G : aw_G) (U : State) : Prop := va_K (g_D G) vwCl (aw_tys G) U ∧ (∀ w ∈ aw_nst, va_Nw w U) ∧ va_AO RX8 U ∧ (∀ o, o < 3 → va_T .int (g_ad G o) (g_rn G o) (fun j => .int (g_ro G o j)) (aw_A G) U U.heap) ∧ va_Z RX9 "WAY" "[I" (.ref (g_ad G 1)) (aw_A G) U U.heap ∧ va_Z RX9 "CARTER" "[I" (.ref (g_ad G 2)) (aw_A G) U U.heap ∧ (∀ i, g_ad G (i + 3) = g_b G + i) ∧ g_b G ≤ U.heap.size
/-- the locals; a place of which nothing is known holds retAddr 0 -/
abbrev aw_x : Value := .retAddr 0
def aw_L (ad : Nat → Nat) (lsC : Array Slot) (nL : Nat) (ls : List Value) : Prop := lsC.size = nL ∧ lv_wf lsC ∧ ∀ (i : Nat) (v : Value), ls[i]? = some v → v ≠ aw_x → lsC[i]? = some (.val (aw_cv ad v))
def aw_Cx (G : aw_G) (M : aw_MR) (p : Program) (s : State) (m : MethodId) (args : Array Value) (meth : Method) (c : Code) : Prop :=
  p.tables.exec = Jvm.exec ∧ c.code = aw_c M ∧ c.maxLocals = aw_nL M ∧ s.vm.findClass (aw_nm (aw_own M)) = some m.cls ∧ (∀ w ∈ aw_tbl, w.before args s = true) ∧ (aw_ini M = true → meth.name = "<init>") ∧ aw_Fx G s
def aw_Rt (M : aw_MR) (pc : Nat) (v : Option Value) : Prop :=
  (v = none ∧ decode (aw_c M) pc = .ok (.return_, 1) ∧ aw_ret M = none) ∨
  (∃ x ty, v = some (.int x) ∧ decode (aw_c M) pc = .ok (.ireturn, 1) ∧ aw_ret M = some ty ∧ narrow ty (.int x) = .int x) ∨
  (∃ x, v = some (.long x) ∧ decode (aw_c M) pc = .ok (.lreturn, 1) ∧ aw_ret M = some .long) ∨
  (∃ a n, v = some (.ref a) ∧ decode (aw_c M) pc = .ok (.areturn, 1) ∧ aw_ret M = some (.object n))
/-- from the abstract state at pc the machine comes to an end with Q -/
def aw_W (G : aw_G) (M : aw_MR) (pc : Nat) (ls st : List Value) (h : aw_H) (q : Nat × Nat) (Q : Option Value → aw_H → Prop) : Prop :=
  ∀ (p : Program) (e : Env) (s : State) (m : MethodId) (args : Array Value) (below : List Frame) (meth : Method) (c : Code) (Z : State → Prop),
    aw_Cx G M p s m args meth c →
    (∀ (pc2 : Nat) (ls2 : Array Slot) (v : Option Value) (h2 : aw_H) (H2 : Heap) (locs2 : List Loc) (q2 : Nat × Nat), Q v h2 → aw_Rep G h2 H2 → va_S (aw_A G) s.heap H2 locs2 → (q2.1 ≤ aw_mc M ∧ q2.2 ≤ aw_ms M) → aw_Rt M pc2 v →
      W p (g_l G) e (aw_rm M) s m args below meth c H2 locs2 q2.1 q2.2 Z (F0 m pc2 ls2 (v.toList.map (aw_cv (g_ad G))))) →
    ∀ (H : Heap) (locs : List Loc) (lsC : Array Slot), aw_L (g_ad G) lsC (aw_nL M) ls → aw_Rep G h H → va_S (aw_A G) s.heap H locs →
      W p (g_l G) e (aw_rm M) s m args below meth c H locs q.1 q.2 Z (F0 m pc lsC (st.map (aw_cv (g_ad G))))
abbrev aw_ws (M : aw_MR) : List Cond := .code (aw_y M) (aw_c M) (aw_nL M) (aw_ret M) :: aw_tbl
def aw_Qc (G : aw_G) (Q : Option Value → aw_H → Prop) : Array Value → State → Outcome → State → Prop := fun _ st oc t => ∃ (v : Option Value) (h2 : aw_H), oc = .returned (v.map (aw_cv (g_ad G))) ∧ Q v h2 ∧ aw_Rep G h2 t.heap ∧ va_F (aw_A G) st t
def aw_Met (G : aw_G) (M : aw_MR) (avs : List Value) (h : aw_H) (Q : Option Value → aw_H → Prop) : Prop :=
  Met (g_l G) (aw_y M) (aw_ws M) (aw_rm M) (va_Pc (avs.map (aw_cv (g_ad G))) (fun U => aw_Rep G h U.heap ∧ aw_Fx G U)) (aw_Qc G Q) (aw_mc M) (aw_ms M) (aw_A G)
def aw_sl (avs : List Value) : List Value := avs.flatMap fun v => if v.category = 2 then [v, aw_x] else [v]
def aw_ent (avs : List Value) (n : Nat) : List Value := aw_sl avs ++ List.replicate (n - (aw_sl avs).length) aw_x
/-- a storing of one slot hurts no long ahead of it -/
def aw_pok (ls : List Value) (i : Nat) : Bool := match i with
  | 0 => true
  | j + 1 => match ls[j]? with
    | some v => v.category == 1
    | none => true
theorem aw_cv_cat (ad : Nat → Nat) (v : Value) : (aw_cv ad v).category = v.category := by cases v <;> rfl
theorem aw_good : ∀ w ∈ aw_tbl, goodWord w = true := fun _ h => (List.mem_filter.mp h).2
theorem aw_in {w : Cond} (h1 : w ∈ lw_tbl) (h2 : goodWord w = true) : w ∈ aw_tbl := List.mem_filter.mpr ⟨h1, h2⟩
theorem aw_GI {ws : List Cond} (h : ∀ w ∈ ws, w ∈ aw_tbl) : GoodIn aw_tbl ws := fun w hw => ⟨h w hw, good_of_word (aw_good w (h w hw))⟩
theorem aw_GW {M : aw_MR} (h : Cond.code (aw_y M) (aw_c M) (aw_nL M) (aw_ret M) ∈ aw_tbl) : GoodIn aw_tbl (aw_ws M) := aw_GI (fun w hw => by
  rcases List.mem_cons.mp hw with rfl | hw
  · exact h
  · exact hw)
theorem aw_wl_get {G : aw_G} {h : aw_H} {i : Nat} (hi : i < h.2.2.2.2) : (aw_wl G h)[i]? = some (g_b G + i, aw_en G h (i + 3)) := by
  unfold aw_wl
  rw [List.getElem?_map, List.getElem?_range hi]
  rfl
theorem aw_wl_set {G : aw_G} {h h2 : aw_H} {i : Nat} (hN : h2.2.2.2.2 = h.2.2.2.2) (hk : ∀ k, k ≠ i + 3 → aw_en G h2 k = aw_en G h k) : (aw_wl G h).set i (g_b G + i, aw_en G h2 (i + 3)) = aw_wl G h2 := by
  apply List.ext_getElem?
  intro j
  rw [List.getElem?_set]
  unfold aw_wl
  rw [hN]
  by_cases hj : i = j
  · subst hj
    rw [if_pos rfl]
    by_cases hl : i < h.2.2.2.2
    · rw [if_pos (by simpa using hl), List.getElem?_map, List.getElem?_range hl]
      rfl
    · rw [if_neg (by simpa using hl), List.getElem?_map, List.getElem?_eq_none (by simpa using hl)]
      rfl
  · rw [if_neg hj, List.getElem?_map, List.getElem?_map]
    by_cases hl : j < h.2.2.2.2
    · rw [List.getElem?_range hl]
      show some (g_b G + j, _) = some (g_b G + j, _)
      rw [hk (j + 3) (by omega)]
    · rw [List.getElem?_eq_none (by simpa using hl)]
      rfl
theorem aw_wl_D {G : aw_G} {h : aw_H} : va_D (aw_A G) (aw_wl G h) := by
  have key : ∀ (i : Nat) (x : Nat × va_E), (aw_wl G h)[i]? = some x → x.1 = g_b G + i := by
    intro i x hx
    unfold aw_wl at hx
    rw [List.getElem?_map] at hx
    by_cases hl : i < h.2.2.2.2
    · rw [List.getElem?_range hl] at hx
      cases hx
      rfl
    · rw [List.getElem?_eq_none (by simpa using hl)] at hx
      cases hx
  refine ⟨fun i j x y hx hy hxy => ?_, fun k x hx => ?_⟩
  · have h1 := key i x hx
    have h2 := key j y hy
    omega
  · show g_b G ≤ x.1
    rw [key k x hx]
    omega
theorem aw_cls {c : Nat} (hc : c < 12) : vwCl[c]? = some (aw_nm c, aw_T c, aw_N c) := by
  match c, hc with
  | 0, _ => rfl
  | 1, _ => rfl
  | 2, _ => rfl
  | 3, _ => rfl
  | 4, _ => rfl
  | 5, _ => rfl
  | 6, _ => rfl
  | 7, _ => rfl
  | 8, _ => rfl
  | 9, _ => rfl
  | 10, _ => rfl
  | 11, _ => rfl
  | c + 12, h => omega
theorem aw_nmk {c : Nat} (hc : c < 12) : ∀ a, a < aw_N c → ∀ b, b < aw_N c → a ≠ b → (aw_T c a).2.1 ≠ (aw_T c b).2.1 := by
  match c, hc with
  | 0, _ => exact nmX0
  | 1, _ => exact nmX1
  | 2, _ => exact nmX2
  | 3, _ => exact nmX3
  | 4, _ => exact nmX4
  | 5, _ => exact nmX5
  | 6, _ => exact nmX6
  | 7, _ => exact nmX7
  | 8, _ => exact nmX8
  | 9, _ => exact nmX9
  | 10, _ => exact nmX10
  | 11, _ => exact nmX11
  | c + 12, h => omega
theorem aw_tyk {c : Nat} (hc : c < 12) : ∀ k, k < aw_N c → parseFieldDescriptor (aw_T c k).2.2.1 = some (aw_ty c k) := by
  match c, hc with
  | 0, _ => exact tyX0_ok
  | 1, _ => exact tyX1_ok
  | 2, _ => exact tyX2_ok
  | 3, _ => exact tyX3_ok
  | 4, _ => exact tyX4_ok
  | 5, _ => exact tyX5_ok
  | 6, _ => exact tyX6_ok
  | 7, _ => exact tyX7_ok
  | 8, _ => exact tyX8_ok
  | 9, _ => exact tyX9_ok
  | 10, _ => exact tyX10_ok
  | 11, _ => exact tyX11_ok
  | c + 12, h => omega
end
section
theorem aw_pick {ws : List Cond} (ps : List Nat) (h : ws = ps.filterMap (fun i => lw_tbl[i]?)) (hg : ws.all goodWord = true) : ∀ w ∈ ws, w ∈ aw_tbl := by
  intro w hw
  have h1 := List.all_eq_true.mp hg w hw
  rw [h] at hw
  obtain ⟨i, -, hi⟩ := List.mem_filterMap.mp hw
  exact aw_in (List.mem_of_getElem? hi) h1
theorem aw_at {w : Cond} (i : Nat) (h : lw_tbl[i]? = some w) (hg : goodWord w = true) : w ∈ aw_tbl := aw_in (List.mem_of_getElem? h) hg
theorem aw_uw0 : ∀ w ∈ u_ws RX0 TX0 3, w ∈ aw_tbl := aw_pick [143, 145, 147] (by decide +kernel) (by decide +kernel)
theorem aw_uw1 : ∀ w ∈ u_ws RX1 TX1 7, w ∈ aw_tbl := aw_pick [472, 474, 476, 478, 480, 482, 484] (by decide +kernel) (by decide +kernel)
theorem aw_uw2 : ∀ w ∈ u_ws RX2 TX2 3, w ∈ aw_tbl := aw_pick [161, 163, 165] (by decide +kernel) (by decide +kernel)
theorem aw_uw3 : ∀ w ∈ u_ws RX3 TX3 13, w ∈ aw_tbl := aw_pick [430, 432, 434, 436, 438, 440, 442, 444, 446, 448, 450, 452, 454] (by decide +kernel) (by decide +kernel)
theorem aw_uw4 : ∀ w ∈ u_ws RX4 TX4 5, w ∈ aw_tbl := aw_pick [270, 272, 274, 276, 278] (by decide +kernel) (by decide +kernel)
theorem aw_uw5 : ∀ w ∈ u_ws RX5 TX5 7, w ∈ aw_tbl := aw_pick [392, 394, 396, 398, 400, 402, 404] (by decide +kernel) (by decide +kernel)
theorem aw_uw6 : ∀ w ∈ u_ws RX6 TX6 12, w ∈ aw_tbl := aw_pick [304, 306, 308, 310, 312, 314, 316, 318, 320, 322, 324, 326] (by decide +kernel) (by decide +kernel)
theorem aw_uw7 : ∀ w ∈ u_ws RX7 TX7 10, w ∈ aw_tbl := aw_pick [206, 208, 210, 212, 214, 216, 218, 220, 222, 224] (by decide +kernel) (by decide +kernel)
theorem aw_uw8 : ∀ w ∈ u_ws RX8 TX8 4, w ∈ aw_tbl := aw_pick [503, 505, 507, 509] (by decide +kernel) (by decide +kernel)
theorem aw_uw9 : ∀ w ∈ u_ws RX9 TX9 6, w ∈ aw_tbl := aw_pick [112, 114, 116, 118, 120, 122] (by decide +kernel) (by decide +kernel)
theorem aw_uw10 : ∀ w ∈ u_ws RX10 TX10 10, w ∈ aw_tbl := aw_pick [522, 524, 526, 528, 530, 532, 534, 536, 538, 540] (by decide +kernel) (by decide +kernel)
theorem aw_uw11 : ∀ w ∈ u_ws RX11 TX11 32, w ∈ aw_tbl := aw_pick [962, 964, 966, 968, 970, 972, 974, 976, 978, 980, 982, 984, 986, 988, 990, 992, 994, 996, 998, 1000, 1002, 1004, 1006, 1008, 1010, 1012, 1014, 1016, 1018, 1020, 1022, 1024] (by decide +kernel) (by decide +kernel)
theorem aw_uws {c : Nat} (hc : c < 12) : ∀ w ∈ u_ws (aw_nm c) (aw_T c) (aw_N c), w ∈ aw_tbl := by
  match c, hc with
  | 0, _ => exact aw_uw0
  | 1, _ => exact aw_uw1
  | 2, _ => exact aw_uw2
  | 3, _ => exact aw_uw3
  | 4, _ => exact aw_uw4
  | 5, _ => exact aw_uw5
  | 6, _ => exact aw_uw6
  | 7, _ => exact aw_uw7
  | 8, _ => exact aw_uw8
  | 9, _ => exact aw_uw9
  | 10, _ => exact aw_uw10
  | 11, _ => exact aw_uw11
  | c + 12, h => omega
end
section
section AWI
variable {G : aw_G} {M : aw_MR} {pc : Nat} {ls st : List Value} {h : aw_H} {q : Nat × Nat} {Q : Option Value → aw_H → Prop}
theorem aw_iconst {n : Int} {v : Int32} (hd : decode (aw_c M) pc = .ok (.iconst n, 1)) (hv : Int32.ofInt n = v) (k : aw_W G M (pc + 1) ls (.int v :: st) h q Q) : aw_W G M pc ls st h q Q :=
  fun p e s m args below meth c Z hC hZ H locs lsC hL hR hS => lv_iconst hC.1 hC.2.1 hd hv (k p e s m args below meth c Z hC hZ H locs lsC hL hR hS)
theorem aw_bipush {n : Int} {v : Int32} (hd : decode (aw_c M) pc = .ok (.bipush n, 2)) (hv : (Int8.ofInt n).toInt32 = v) (k : aw_W G M (pc + 2) ls (.int v :: st) h q Q) : aw_W G M pc ls st h q Q :=
  fun p e s m args below meth c Z hC hZ H locs lsC hL hR hS => lv_bipush hC.1 hC.2.1 hd hv (k p e s m args below meth c Z hC hZ H locs lsC hL hR hS)
theorem aw_sipush {n : Int} {v : Int32} (hd : decode (aw_c M) pc = .ok (.sipush n, 3)) (hv : (Int16.ofInt n).toInt32 = v) (k : aw_W G M (pc + 3) ls (.int v :: st) h q Q) : aw_W G M pc ls st h q Q :=
  fun p e s m args below meth c Z hC hZ H locs lsC hL hR hS => lv_sipush hC.1 hC.2.1 hd hv (k p e s m args below meth c Z hC hZ H locs lsC hL hR hS)
theorem aw_lconst {n : Fin 2} {v : Int64} (hd : decode (aw_c M) pc = .ok (.lconst n, 1)) (hv : Int64.ofNat (n : Nat) = v) (k : aw_W G M (pc + 1) ls (.long v :: st) h q Q) : aw_W G M pc ls st h q Q :=
  fun p e s m args below meth c Z hC hZ H locs lsC hL hR hS => lv_lconst hC.1 hC.2.1 hd hv (k p e s m args below meth c Z hC hZ H locs lsC hL hR hS)
theorem aw_iload_n {j : Fin 4} {x : Int32} (hd : decode (aw_c M) pc = .ok (.iload_n j, 1)) (hl : ls[(j : Nat)]? = some (.int x)) (k : aw_W G M (pc + 1) ls (.int x :: st) h q Q) : aw_W G M pc ls st h q Q :=
  fun p e s m args below meth c Z hC hZ H locs lsC hL hR hS => lv_iload_n hC.1 hC.2.1 hd rfl (hL.2.2 _ _ hl (fun z => by cases z)) (k p e s m args below meth c Z hC hZ H locs lsC hL hR hS)
theorem aw_iload {j : Nat} {x : Int32} (hd : decode (aw_c M) pc = .ok (.iload j, 2)) (hl : ls[j]? = some (.int x)) (k : aw_W G M (pc + 2) ls (.int x :: st) h q Q) : aw_W G M pc ls st h q Q :=
  fun p e s m args below meth c Z hC hZ H locs lsC hL hR hS => lv_iload hC.1 hC.2.1 hd (hL.2.2 _ _ hl (fun z => by cases z)) (k p e s m args below meth c Z hC hZ H locs lsC hL hR hS)
theorem aw_lload_n {j : Fin 4} {x : Int64} (hd : decode (aw_c M) pc = .ok (.lload_n j, 1)) (hl : ls[(j : Nat)]? = some (.long x)) (k : aw_W G M (pc + 1) ls (.long x :: st) h q Q) : aw_W G M pc ls st h q Q :=
  fun p e s m args below meth c Z hC hZ H locs lsC hL hR hS => lv_lload_n hC.1 hC.2.1 hd rfl (hL.2.2 _ _ hl (fun z => by cases z)) (k p e s m args below meth c Z hC hZ H locs lsC hL hR hS)
theorem aw_lload {j : Nat} {x : Int64} (hd : decode (aw_c M) pc = .ok (.lload j, 2)) (hl : ls[j]? = some (.long x)) (k : aw_W G M (pc + 2) ls (.long x :: st) h q Q) : aw_W G M pc ls st h q Q :=
  fun p e s m args below meth c Z hC hZ H locs lsC hL hR hS => lv_lload hC.1 hC.2.1 hd (hL.2.2 _ _ hl (fun z => by cases z)) (k p e s m args below meth c Z hC hZ H locs lsC hL hR hS)
theorem aw_aload_n {j : Fin 4} {x : Nat} (hd : decode (aw_c M) pc = .ok (.aload_n j, 1)) (hl : ls[(j : Nat)]? = some (.ref x)) (k : aw_W G M (pc + 1) ls (.ref x :: st) h q Q) : aw_W G M pc ls st h q Q :=
  fun p e s m args below meth c Z hC hZ H locs lsC hL hR hS => lv_aload_n hC.1 hC.2.1 hd rfl (hL.2.2 _ _ hl (fun z => by cases z)) (k p e s m args below meth c Z hC hZ H locs lsC hL hR hS)
theorem aw_aload {j : Nat} {x : Nat} (hd : decode (aw_c M) pc = .ok (.aload j, 2)) (hl : ls[j]? = some (.ref x)) (k : aw_W G M (pc + 2) ls (.ref x :: st) h q Q) : aw_W G M pc ls st h q Q :=
  fun p e s m args below meth c Z hC hZ H locs lsC hL hR hS => lv_aload hC.1 hC.2.1 hd (hL.2.2 _ _ hl (fun z => by cases z)) (k p e s m args below meth c Z hC hZ H locs lsC hL hR hS)
theorem aw_iadd {x y : Int32} (hd : decode (aw_c M) pc = .ok (.iadd, 1)) (k : aw_W G M (pc + 1) ls (.int (x + y) :: st) h q Q) : aw_W G M pc ls (.int y :: .int x :: st) h q Q :=
  fun p e s m args below meth c Z hC hZ H locs lsC hL hR hS => lv_iadd hC.1 hC.2.1 hd (k p e s m args below meth c Z hC hZ H locs lsC hL hR hS)
theorem aw_isub {x y : Int32} (hd : decode (aw_c M) pc = .ok (.isub, 1)) (k : aw_W G M (pc + 1) ls (.int (x - y) :: st) h q Q) : aw_W G M pc ls (.int y :: .int x :: st) h q Q :=
  fun p e s m args below meth c Z hC hZ H locs lsC hL hR hS => lv_isub hC.1 hC.2.1 hd (k p e s m args below meth c Z hC hZ H locs lsC hL hR hS)
theorem aw_imul {x y : Int32} (hd : decode (aw_c M) pc = .ok (.imul, 1)) (k : aw_W G M (pc + 1) ls (.int (x * y) :: st) h q Q) : aw_W G M pc ls (.int y :: .int x :: st) h q Q :=
  fun p e s m args below meth c Z hC hZ H locs lsC hL hR hS => lv_imul hC.1 hC.2.1 hd (k p e s m args below meth c Z hC hZ H locs lsC hL hR hS)
theorem aw_iand {x y : Int32} (hd : decode (aw_c M) pc = .ok (.iand, 1)) (k : aw_W G M (pc + 1) ls (.int (x &&& y) :: st) h q Q) : aw_W G M pc ls (.int y :: .int x :: st) h q Q :=
  fun p e s m args below meth c Z hC hZ H locs lsC hL hR hS => lv_iand hC.1 hC.2.1 hd (k p e s m args below meth c Z hC hZ H locs lsC hL hR hS)
theorem aw_ior {x y : Int32} (hd : decode (aw_c M) pc = .ok (.ior, 1)) (k : aw_W G M (pc + 1) ls (.int (x ||| y) :: st) h q Q) : aw_W G M pc ls (.int y :: .int x :: st) h q Q :=
  fun p e s m args below meth c Z hC hZ H locs lsC hL hR hS => lv_ior hC.1 hC.2.1 hd (k p e s m args below meth c Z hC hZ H locs lsC hL hR hS)
theorem aw_ixor {x y : Int32} (hd : decode (aw_c M) pc = .ok (.ixor, 1)) (k : aw_W G M (pc + 1) ls (.int (x ^^^ y) :: st) h q Q) : aw_W G M pc ls (.int y :: .int x :: st) h q Q :=
  fun p e s m args below meth c Z hC hZ H locs lsC hL hR hS => lv_ixor hC.1 hC.2.1 hd (k p e s m args below meth c Z hC hZ H locs lsC hL hR hS)
theorem aw_ishl {x y : Int32} (hd : decode (aw_c M) pc = .ok (.ishl, 1)) (k : aw_W G M (pc + 1) ls (.int (x <<< (y &&& 31)) :: st) h q Q) : aw_W G M pc ls (.int y :: .int x :: st) h q Q :=
  fun p e s m args below meth c Z hC hZ H locs lsC hL hR hS => lv_ishl hC.1 hC.2.1 hd (k p e s m args below meth c Z hC hZ H locs lsC hL hR hS)
theorem aw_ishr {x y : Int32} (hd : decode (aw_c M) pc = .ok (.ishr, 1)) (k : aw_W G M (pc + 1) ls (.int (x >>> (y &&& 31)) :: st) h q Q) : aw_W G M pc ls (.int y :: .int x :: st) h q Q :=
  fun p e s m args below meth c Z hC hZ H locs lsC hL hR hS => lv_ishr hC.1 hC.2.1 hd (k p e s m args below meth c Z hC hZ H locs lsC hL hR hS)
theorem aw_idiv {x y : Int32} (hd : decode (aw_c M) pc = .ok (.idiv, 1)) (hne : ¬ y = 0) (k : aw_W G M (pc + 1) ls (.int (x / y) :: st) h q Q) : aw_W G M pc ls (.int y :: .int x :: st) h q Q :=
  fun p e s m args below meth c Z hC hZ H locs lsC hL hR hS => lv_idiv hC.1 hC.2.1 hd hne (k p e s m args below meth c Z hC hZ H locs lsC hL hR hS)
theorem aw_irem {x y : Int32} (hd : decode (aw_c M) pc = .ok (.irem, 1)) (hne : ¬ y = 0) (k : aw_W G M (pc + 1) ls (.int (x - x / y * y) :: st) h q Q) : aw_W G M pc ls (.int y :: .int x :: st) h q Q :=
  fun p e s m args below meth c Z hC hZ H locs lsC hL hR hS => lv_irem hC.1 hC.2.1 hd hne (k p e s m args below meth c Z hC hZ H locs lsC hL hR hS)
theorem aw_iushr {x y : Int32} (hd : decode (aw_c M) pc = .ok (.iushr, 1)) (k : aw_W G M (pc + 1) ls (.int (x.toUInt32 >>> (y.toUInt32 &&& Int32.toUInt32 31)).toInt32 :: st) h q Q) : aw_W G M pc ls (.int y :: .int x :: st) h q Q :=
  fun p e s m args below meth c Z hC hZ H locs lsC hL hR hS => lv_iushr hC.1 hC.2.1 hd rfl (k p e s m args below meth c Z hC hZ H locs lsC hL hR hS)
theorem aw_ladd {x y : Int64} (hd : decode (aw_c M) pc = .ok (.ladd, 1)) (k : aw_W G M (pc + 1) ls (.long (x + y) :: st) h q Q) : aw_W G M pc ls (.long y :: .long x :: st) h q Q :=
  fun p e s m args below meth c Z hC hZ H locs lsC hL hR hS => lv_ladd hC.1 hC.2.1 hd (k p e s m args below meth c Z hC hZ H locs lsC hL hR hS)
theorem aw_lsub {x y : Int64} (hd : decode (aw_c M) pc = .ok (.lsub, 1)) (k : aw_W G M (pc + 1) ls (.long (x - y) :: st) h q Q) : aw_W G M pc ls (.long y :: .long x :: st) h q Q :=
  fun p e s m args below meth c Z hC hZ H locs lsC hL hR hS => lv_lsub hC.1 hC.2.1 hd (k p e s m args below meth c Z hC hZ H locs lsC hL hR hS)
theorem aw_lmul {x y : Int64} (hd : decode (aw_c M) pc = .ok (.lmul, 1)) (k : aw_W G M (pc + 1) ls (.long (x * y) :: st) h q Q) : aw_W G M pc ls (.long y :: .long x :: st) h q Q :=
  fun p e s m args below meth c Z hC hZ H locs lsC hL hR hS => lv_lmul hC.1 hC.2.1 hd (k p e s m args below meth c Z hC hZ H locs lsC hL hR hS)
theorem aw_ldiv {x y : Int64} (hd : decode (aw_c M) pc = .ok (.ldiv, 1)) (hne : ¬ y = 0) (k : aw_W G M (pc + 1) ls (.long (x / y) :: st) h q Q) : aw_W G M pc ls (.long y :: .long x :: st) h q Q :=
  fun p e s m args below meth c Z hC hZ H locs lsC hL hR hS => lv_ldiv hC.1 hC.2.1 hd hne (k p e s m args below meth c Z hC hZ H locs lsC hL hR hS)
theorem aw_lrem {x y : Int64} (hd : decode (aw_c M) pc = .ok (.lrem, 1)) (hne : ¬ y = 0) (k : aw_W G M (pc + 1) ls (.long (x - x / y * y) :: st) h q Q) : aw_W G M pc ls (.long y :: .long x :: st) h q Q :=
  fun p e s m args below meth c Z hC hZ H locs lsC hL hR hS => lv_lrem hC.1 hC.2.1 hd hne (k p e s m args below meth c Z hC hZ H locs lsC hL hR hS)
theorem aw_lshl {x : Int64} {y : Int32} (hd : decode (aw_c M) pc = .ok (.lshl, 1)) (k : aw_W G M (pc + 1) ls (.long (x <<< (y.toInt64 &&& 63)) :: st) h q Q) : aw_W G M pc ls (.int y :: .long x :: st) h q Q :=
  fun p e s m args below meth c Z hC hZ H locs lsC hL hR hS => lv_lshl hC.1 hC.2.1 hd rfl (k p e s m args below meth c Z hC hZ H locs lsC hL hR hS)
theorem aw_i2l {x : Int32} (hd : decode (aw_c M) pc = .ok (.i2l, 1)) (k : aw_W G M (pc + 1) ls (.long x.toInt64 :: st) h q Q) : aw_W G M pc ls (.int x :: st) h q Q :=
  fun p e s m args below meth c Z hC hZ H locs lsC hL hR hS => lv_i2l hC.1 hC.2.1 hd rfl (k p e s m args below meth c Z hC hZ H locs lsC hL hR hS)
theorem aw_i2b {x : Int32} (hd : decode (aw_c M) pc = .ok (.i2b, 1)) (k : aw_W G M (pc + 1) ls (.int x.toInt8.toInt32 :: st) h q Q) : aw_W G M pc ls (.int x :: st) h q Q :=
  fun p e s m args below meth c Z hC hZ H locs lsC hL hR hS => lv_i2b hC.1 hC.2.1 hd rfl (k p e s m args below meth c Z hC hZ H locs lsC hL hR hS)
theorem aw_i2s {x : Int32} (hd : decode (aw_c M) pc = .ok (.i2s, 1)) (k : aw_W G M (pc + 1) ls (.int x.toInt16.toInt32 :: st) h q Q) : aw_W G M pc ls (.int x :: st) h q Q :=
  fun p e s m args below meth c Z hC hZ H locs lsC hL hR hS => lv_i2s hC.1 hC.2.1 hd rfl (k p e s m args below meth c Z hC hZ H locs lsC hL hR hS)
theorem aw_lcmp {x y : Int64} (hd : decode (aw_c M) pc = .ok (.lcmp, 1)) (k : aw_W G M (pc + 1) ls (.int (lg_cmp x y) :: st) h q Q) : aw_W G M pc ls (.long y :: .long x :: st) h q Q :=
  fun p e s m args below meth c Z hC hZ H locs lsC hL hR hS => W.lcmp hC.1 hC.2.1 hd (k p e s m args below meth c Z hC hZ H locs lsC hL hR hS)
theorem aw_dup {v : Value} (hd : decode (aw_c M) pc = .ok (.dup, 1)) (hv : v.category = 1) (k : aw_W G M (pc + 1) ls (v :: v :: st) h q Q) : aw_W G M pc ls (v :: st) h q Q :=
  fun p e s m args below meth c Z hC hZ H locs lsC hL hR hS => lv_dup hC.1 hC.2.1 hd ((aw_cv_cat _ _).trans hv) (k p e s m args below meth c Z hC hZ H locs lsC hL hR hS)
theorem aw_dup2 {v w : Value} (hd : decode (aw_c M) pc = .ok (.dup2, 1)) (hv : v.category = 1) (hw : w.category = 1) (k : aw_W G M (pc + 1) ls (v :: w :: v :: w :: st) h q Q) : aw_W G M pc ls (v :: w :: st) h q Q :=
  fun p e s m args below meth c Z hC hZ H locs lsC hL hR hS => lv_dup2_11 hC.1 hC.2.1 hd ((aw_cv_cat _ _).trans hv) ((aw_cv_cat _ _).trans hw) (k p e s m args below meth c Z hC hZ H locs lsC hL hR hS)
theorem aw_pop {v : Value} (hd : decode (aw_c M) pc = .ok (.pop, 1)) (hv : v.category = 1) (k : aw_W G M (pc + 1) ls st h q Q) : aw_W G M pc ls (v :: st) h q Q :=
  fun p e s m args below meth c Z hC hZ H locs lsC hL hR hS => lv_pop hC.1 hC.2.1 hd ((aw_cv_cat _ _).trans hv) (k p e s m args below meth c Z hC hZ H locs lsC hL hR hS)
theorem aw_ldc {j : Nat} {x : Int32} (hd : decode (aw_c M) pc = .ok (.ldc j, 2)) (hw : Cond.constant (aw_nm (aw_own M)) j x ∈ aw_tbl) (k : aw_W G M (pc + 2) ls (.int x :: st) h q Q) : aw_W G M pc ls st h q Q :=
  fun p e s m args below meth c Z hC hZ H locs lsC hL hR hS => lv_ldc hC.1 hC.2.1 hC.2.2.2.1 (hC.2.2.2.2.1 _ hw) hd (k p e s m args below meth c Z hC hZ H locs lsC hL hR hS)
theorem aw_ldcw {j : Nat} {x : Int32} (hd : decode (aw_c M) pc = .ok (.ldc_w j, 3)) (hw : Cond.constant (aw_nm (aw_own M)) j x ∈ aw_tbl) (k : aw_W G M (pc + 3) ls (.int x :: st) h q Q) : aw_W G M pc ls st h q Q :=
  fun p e s m args below meth c Z hC hZ H locs lsC hL hR hS => lv_ldcw hC.1 hC.2.1 hC.2.2.2.1 (hC.2.2.2.2.1 _ hw) hd (k p e s m args below meth c Z hC hZ H locs lsC hL hR hS)
theorem aw_ldc2 {j : Nat} {x : Int64} (hd : decode (aw_c M) pc = .ok (.ldc2_w j, 3)) (hw : Cond.constantLong (aw_nm (aw_own M)) j x ∈ aw_tbl) (k : aw_W G M (pc + 3) ls (.long x :: st) h q Q) : aw_W G M pc ls st h q Q :=
  fun p e s m args below meth c Z hC hZ H locs lsC hL hR hS => lv_ldc2 hC.1 hC.2.1 hC.2.2.2.1 (hC.2.2.2.2.1 _ hw) hd (k p e s m args below meth c Z hC hZ H locs lsC hL hR hS)
theorem aw_if_eq {x : Int32} {off : Int} {tgt : Nat} (hd : decode (aw_c M) pc = .ok (.ifCond .eq off, 3)) (ht : (pc : Int) + off = (tgt : Int)) (kt : x = 0 → aw_W G M tgt ls st h q Q) (kf : ¬ x = 0 → aw_W G M (pc + 3) ls st h q Q) : aw_W G M pc ls (.int x :: st) h q Q :=
  fun p e s m args below meth c Z hC hZ H locs lsC hL hR hS => lv_if_eq hC.1 hC.2.1 hd ht (fun z => (kt z p e s m args below meth c Z hC hZ H locs lsC hL hR hS)) (fun z => (kf z p e s m args below meth c Z hC hZ H locs lsC hL hR hS))
theorem aw_if_ne {x : Int32} {off : Int} {tgt : Nat} (hd : decode (aw_c M) pc = .ok (.ifCond .ne off, 3)) (ht : (pc : Int) + off = (tgt : Int)) (kt : ¬ x = 0 → aw_W G M tgt ls st h q Q) (kf : x = 0 → aw_W G M (pc + 3) ls st h q Q) : aw_W G M pc ls (.int x :: st) h q Q :=
  fun p e s m args below meth c Z hC hZ H locs lsC hL hR hS => lv_if_ne hC.1 hC.2.1 hd ht (fun z => (kt z p e s m args below meth c Z hC hZ H locs lsC hL hR hS)) (fun z => (kf z p e s m args below meth c Z hC hZ H locs lsC hL hR hS))
theorem aw_if_lt {x : Int32} {off : Int} {tgt : Nat} (hd : decode (aw_c M) pc = .ok (.ifCond .lt off, 3)) (ht : (pc : Int) + off = (tgt : Int)) (kt : x < 0 → aw_W G M tgt ls st h q Q) (kf : ¬ x < 0 → aw_W G M (pc + 3) ls st h q Q) : aw_W G M pc ls (.int x :: st) h q Q :=
  fun p e s m args below meth c Z hC hZ H locs lsC hL hR hS => lv_if_lt hC.1 hC.2.1 hd ht (fun z => (kt z p e s m args below meth c Z hC hZ H locs lsC hL hR hS)) (fun z => (kf z p e s m args below meth c Z hC hZ H locs lsC hL hR hS))
theorem aw_if_ge {x : Int32} {off : Int} {tgt : Nat} (hd : decode (aw_c M) pc = .ok (.ifCond .ge off, 3)) (ht : (pc : Int) + off = (tgt : Int)) (kt : 0 ≤ x → aw_W G M tgt ls st h q Q) (kf : ¬ 0 ≤ x → aw_W G M (pc + 3) ls st h q Q) : aw_W G M pc ls (.int x :: st) h q Q :=
  fun p e s m args below meth c Z hC hZ H locs lsC hL hR hS => lv_if_ge hC.1 hC.2.1 hd ht (fun z => (kt z p e s m args below meth c Z hC hZ H locs lsC hL hR hS)) (fun z => (kf z p e s m args below meth c Z hC hZ H locs lsC hL hR hS))
theorem aw_if_gt {x : Int32} {off : Int} {tgt : Nat} (hd : decode (aw_c M) pc = .ok (.ifCond .gt off, 3)) (ht : (pc : Int) + off = (tgt : Int)) (kt : 0 < x → aw_W G M tgt ls st h q Q) (kf : ¬ 0 < x → aw_W G M (pc + 3) ls st h q Q) : aw_W G M pc ls (.int x :: st) h q Q :=
  fun p e s m args below meth c Z hC hZ H locs lsC hL hR hS => lv_if_gt hC.1 hC.2.1 hd ht (fun z => (kt z p e s m args below meth c Z hC hZ H locs lsC hL hR hS)) (fun z => (kf z p e s m args below meth c Z hC hZ H locs lsC hL hR hS))
theorem aw_if_le {x : Int32} {off : Int} {tgt : Nat} (hd : decode (aw_c M) pc = .ok (.ifCond .le off, 3)) (ht : (pc : Int) + off = (tgt : Int)) (kt : x ≤ 0 → aw_W G M tgt ls st h q Q) (kf : ¬ x ≤ 0 → aw_W G M (pc + 3) ls st h q Q) : aw_W G M pc ls (.int x :: st) h q Q :=
  fun p e s m args below meth c Z hC hZ H locs lsC hL hR hS => lv_if_le hC.1 hC.2.1 hd ht (fun z => (kt z p e s m args below meth c Z hC hZ H locs lsC hL hR hS)) (fun z => (kf z p e s m args below meth c Z hC hZ H locs lsC hL hR hS))
theorem aw_ic_eq {x y : Int32} {off : Int} {tgt : Nat} (hd : decode (aw_c M) pc = .ok (.if_icmp .eq off, 3)) (ht : (pc : Int) + off = (tgt : Int)) (kt : x = y → aw_W G M tgt ls st h q Q) (kf : ¬ x = y → aw_W G M (pc + 3) ls st h q Q) : aw_W G M pc ls (.int y :: .int x :: st) h q Q :=
  fun p e s m args below meth c Z hC hZ H locs lsC hL hR hS => lv_icmp_eq hC.1 hC.2.1 hd ht (fun z => (kt z p e s m args below meth c Z hC hZ H locs lsC hL hR hS)) (fun z => (kf z p e s m args below meth c Z hC hZ H locs lsC hL hR hS))
theorem aw_ic_ne {x y : Int32} {off : Int} {tgt : Nat} (hd : decode (aw_c M) pc = .ok (.if_icmp .ne off, 3)) (ht : (pc : Int) + off = (tgt : Int)) (kt : ¬ x = y → aw_W G M tgt ls st h q Q) (kf : x = y → aw_W G M (pc + 3) ls st h q Q) : aw_W G M pc ls (.int y :: .int x :: st) h q Q :=
  fun p e s m args below meth c Z hC hZ H locs lsC hL hR hS => lv_icmp_ne hC.1 hC.2.1 hd ht (fun z => (kt z p e s m args below meth c Z hC hZ H locs lsC hL hR hS)) (fun z => (kf z p e s m args below meth c Z hC hZ H locs lsC hL hR hS))
theorem aw_ic_lt {x y : Int32} {off : Int} {tgt : Nat} (hd : decode (aw_c M) pc = .ok (.if_icmp .lt off, 3)) (ht : (pc : Int) + off = (tgt : Int)) (kt : x < y → aw_W G M tgt ls st h q Q) (kf : ¬ x < y → aw_W G M (pc + 3) ls st h q Q) : aw_W G M pc ls (.int y :: .int x :: st) h q Q :=
  fun p e s m args below meth c Z hC hZ H locs lsC hL hR hS => lv_icmp_lt hC.1 hC.2.1 hd ht (fun z => (kt z p e s m args below meth c Z hC hZ H locs lsC hL hR hS)) (fun z => (kf z p e s m args below meth c Z hC hZ H locs lsC hL hR hS))
theorem aw_ic_ge {x y : Int32} {off : Int} {tgt : Nat} (hd : decode (aw_c M) pc = .ok (.if_icmp .ge off, 3)) (ht : (pc : Int) + off = (tgt : Int)) (kt : y ≤ x → aw_W G M tgt ls st h q Q) (kf : ¬ y ≤ x → aw_W G M (pc + 3) ls st h q Q) : aw_W G M pc ls (.int y :: .int x :: st) h q Q :=
  fun p e s m args below meth c Z hC hZ H locs lsC hL hR hS => lv_icmp_ge hC.1 hC.2.1 hd ht (fun z => (kt z p e s m args below meth c Z hC hZ H locs lsC hL hR hS)) (fun z => (kf z p e s m args below meth c Z hC hZ H locs lsC hL hR hS))
theorem aw_ic_gt {x y : Int32} {off : Int} {tgt : Nat} (hd : decode (aw_c M) pc = .ok (.if_icmp .gt off, 3)) (ht : (pc : Int) + off = (tgt : Int)) (kt : y < x → aw_W G M tgt ls st h q Q) (kf : ¬ y < x → aw_W G M (pc + 3) ls st h q Q) : aw_W G M pc ls (.int y :: .int x :: st) h q Q :=
  fun p e s m args below meth c Z hC hZ H locs lsC hL hR hS => lv_icmp_gt hC.1 hC.2.1 hd ht (fun z => (kt z p e s m args below meth c Z hC hZ H locs lsC hL hR hS)) (fun z => (kf z p e s m args below meth c Z hC hZ H locs lsC hL hR hS))
theorem aw_ic_le {x y : Int32} {off : Int} {tgt : Nat} (hd : decode (aw_c M) pc = .ok (.if_icmp .le off, 3)) (ht : (pc : Int) + off = (tgt : Int)) (kt : x ≤ y → aw_W G M tgt ls st h q Q) (kf : ¬ x ≤ y → aw_W G M (pc + 3) ls st h q Q) : aw_W G M pc ls (.int y :: .int x :: st) h q Q :=
  fun p e s m args below meth c Z hC hZ H locs lsC hL hR hS => lv_icmp_le hC.1 hC.2.1 hd ht (fun z => (kt z p e s m args below meth c Z hC hZ H locs lsC hL hR hS)) (fun z => (kf z p e s m args below meth c Z hC hZ H locs lsC hL hR hS))
theorem aw_goto {off : Int} {tgt : Nat} (hd : decode (aw_c M) pc = .ok (.goto off, 3)) (ht : (pc : Int) + off = (tgt : Int)) (k : aw_W G M tgt ls st h q Q) : aw_W G M pc ls st h q Q :=
  fun p e s m args below meth c Z hC hZ H locs lsC hL hR hS => lv_goto hC.1 hC.2.1 hd ht (k p e s m args below meth c Z hC hZ H locs lsC hL hR hS)
theorem aw_swIn {d lo hi : Int} {offs : Array Int} {ln : Nat} {x : Int32} {off : Int} {tgt : Nat} (hd : decode (aw_c M) pc = .ok (.tableswitch d lo hi offs, ln)) (h1 : ¬ x.toInt < lo) (h2 : ¬ hi < x.toInt) (ho : offs[(x.toInt - lo).toNat]? = some off) (ht : (pc : Int) + off = (tgt : Int)) (k : aw_W G M tgt ls st h q Q) : aw_W G M pc ls (.int x :: st) h q Q :=
  fun p e s m args below meth c Z hC hZ H locs lsC hL hR hS => lv_tableIn hC.1 hC.2.1 hd h1 h2 ho ht (k p e s m args below meth c Z hC hZ H locs lsC hL hR hS)
theorem aw_swOut {d lo hi : Int} {offs : Array Int} {ln : Nat} {x : Int32} {tgt : Nat} (hd : decode (aw_c M) pc = .ok (.tableswitch d lo hi offs, ln)) (h1 : x.toInt < lo ∨ hi < x.toInt) (ht : (pc : Int) + d = (tgt : Int)) (k : aw_W G M tgt ls st h q Q) : aw_W G M pc ls (.int x :: st) h q Q :=
  fun p e s m args below meth c Z hC hZ H locs lsC hL hR hS => lv_tableOut hC.1 hC.2.1 hd h1 ht (k p e s m args below meth c Z hC hZ H locs lsC hL hR hS)
/-- the listed locals, as the kit lists them -/
def aw_al (ad : Nat → Nat) (ls : List Value) : List (Nat × Value) := (List.range ls.length).filterMap (fun i => match ls[i]? with
  | some v => if v = aw_x then none else some (i, aw_cv ad v)
  | none => none)
theorem aw_al_in {ad : Nat → Nat} {ls : List Value} {i : Nat} {v : Value} (h : ls[i]? = some v) (hv : v ≠ aw_x) : (i, aw_cv ad v) ∈ aw_al ad ls := by
  refine List.mem_filterMap.mpr ⟨i, List.mem_range.mpr (List.getElem?_eq_some_iff.mp h).1, ?_⟩
  simp only [h, if_neg hv]
theorem aw_al_of {ad : Nat → Nat} {ls : List Value} {x : Nat × Value} (h : x ∈ aw_al ad ls) : ∃ v, ls[x.1]? = some v ∧ v ≠ aw_x ∧ x.2 = aw_cv ad v := by
  obtain ⟨i, -, hi⟩ := List.mem_filterMap.mp h
  split at hi
  next v hv =>
    by_cases hx : v = aw_x
    · rw [if_pos hx] at hi; cases hi
    · rw [if_neg hx] at hi; cases hi; exact ⟨v, hv, hx, rfl⟩
  next => cases hi
theorem aw_L.has {ad : Nat → Nat} {lsC : Array Slot} {nL : Nat} {ls : List Value} (h : aw_L ad lsC nL ls) : lv_has lsC nL (aw_al ad ls) := ⟨h.1, h.2.1, fun x hx => by
  obtain ⟨v, h1, h2, h3⟩ := aw_al_of hx
  rw [h3]; exact h.2.2 _ _ h1 h2⟩
theorem aw_L.set1 {ad : Nat → Nat} {lsC : Array Slot} {nL i : Nat} {ls : List Value} {v : Value} (hp : aw_pok ls i = true) (h : lv_has lsC nL ((i, aw_cv ad v) :: (aw_al ad ls).filter (fun q => !(q.1 == i) && !(q.1 + 1 == i && q.2.category == 2)))) : aw_L ad lsC nL (ls.set i v) := by
  refine ⟨h.1, h.2.1, fun j w hj hw => ?_⟩
  by_cases hij : i = j
  · subst hij
    rw [List.getElem?_set] at hj
    split at hj
    next => split at hj
            next => cases hj; exact h.2.2 (i, aw_cv ad v) List.mem_cons_self
            next => cases hj
    next z => exact absurd rfl z
  · rw [List.getElem?_set_ne hij] at hj
    refine h.2.2 (j, aw_cv ad w) (List.mem_cons_of_mem _ (List.mem_filter.mpr ⟨aw_al_in hj hw, ?_⟩))
    simp only [Bool.and_eq_true, Bool.not_eq_true', beq_eq_false_iff_ne, ne_eq, Bool.and_eq_false_iff]
    refine ⟨fun z => hij z.symm, ?_⟩
    by_cases hz : j + 1 = i
    · right
      subst hz
      simp only [aw_pok, hj, beq_iff_eq] at hp
      rw [aw_cv_cat, hp]; decide
    · left; exact hz
theorem aw_L.set2 {ad : Nat → Nat} {lsC : Array Slot} {nL i : Nat} {ls : List Value} {v : Value} (hp : aw_pok ls i = true) (h : lv_has lsC nL ((i, aw_cv ad v) :: (aw_al ad ls).filter (fun q => !(q.1 == i) && (!(q.1 == i + 1) && !(q.1 + 1 == i && q.2.category == 2))))) : aw_L ad lsC nL ((ls.set i v).set (i + 1) aw_x) := by
  refine ⟨h.1, h.2.1, fun j w hj hw => ?_⟩
  by_cases h1 : i + 1 = j
  · subst h1
    rw [List.getElem?_set] at hj
    split at hj
    next => split at hj
            next => cases hj; exact absurd rfl hw
            next => cases hj
    next z => exact absurd rfl z
  · rw [List.getElem?_set_ne h1] at hj
    by_cases hij : i = j
    · subst hij
      rw [List.getElem?_set] at hj
      split at hj
      next => split at hj
              next => cases hj; exact h.2.2 (i, aw_cv ad v) List.mem_cons_self
              next => cases hj
      next z => exact absurd rfl z
    · rw [List.getElem?_set_ne hij] at hj
      refine h.2.2 (j, aw_cv ad w) (List.mem_cons_of_mem _ (List.mem_filter.mpr ⟨aw_al_in hj hw, ?_⟩))
      simp only [Bool.and_eq_true, Bool.not_eq_true', beq_eq_false_iff_ne, ne_eq, Bool.and_eq_false_iff]
      refine ⟨fun z => hij z.symm, fun z => h1 z.symm, ?_⟩
      by_cases hz : j + 1 = i
      · right
        subst hz
        simp only [aw_pok, hj, beq_iff_eq] at hp
        rw [aw_cv_cat, hp]; decide
      · left; exact hz
theorem aw_istore_n {j : Fin 4} {x : Int32} {ls2 : List Value} (hd : decode (aw_c M) pc = .ok (.istore_n j, 1)) (hn : (j : Nat) < aw_nL M) (hp : aw_pok ls j = true) (hl : ls.set j (.int x) = ls2) (k : aw_W G M (pc + 1) ls2 st h q Q) : aw_W G M pc ls (.int x :: st) h q Q :=
  fun p e s m args below meth c Z hC hZ H locs lsC hL hR hS => lv_istore_n hC.1 hC.2.1 hd rfl hL.has hn rfl (fun lsC hL => k p e s m args below meth c Z hC hZ H locs lsC (hl ▸ aw_L.set1 (v := .int x) hp hL) hR hS)
theorem aw_istore {j : Nat} {x : Int32} {ls2 : List Value} (hd : decode (aw_c M) pc = .ok (.istore j, 2)) (hn : j < aw_nL M) (hp : aw_pok ls j = true) (hl : ls.set j (.int x) = ls2) (k : aw_W G M (pc + 2) ls2 st h q Q) : aw_W G M pc ls (.int x :: st) h q Q :=
  fun p e s m args below meth c Z hC hZ H locs lsC hL hR hS => lv_istore hC.1 hC.2.1 hd hL.has hn rfl (fun lsC hL => k p e s m args below meth c Z hC hZ H locs lsC (hl ▸ aw_L.set1 (v := .int x) hp hL) hR hS)
theorem aw_astore_n {j : Fin 4} {x : Nat} {ls2 : List Value} (hd : decode (aw_c M) pc = .ok (.astore_n j, 1)) (hn : (j : Nat) < aw_nL M) (hp : aw_pok ls j = true) (hl : ls.set j (.ref x) = ls2) (k : aw_W G M (pc + 1) ls2 st h q Q) : aw_W G M pc ls (.ref x :: st) h q Q :=
  fun p e s m args below meth c Z hC hZ H locs lsC hL hR hS => lv_astore_n hC.1 hC.2.1 hd rfl hL.has hn rfl (fun lsC hL => k p e s m args below meth c Z hC hZ H locs lsC (hl ▸ aw_L.set1 (v := .ref x) hp hL) hR hS)
theorem aw_astore {j : Nat} {x : Nat} {ls2 : List Value} (hd : decode (aw_c M) pc = .ok (.astore j, 2)) (hn : j < aw_nL M) (hp : aw_pok ls j = true) (hl : ls.set j (.ref x) = ls2) (k : aw_W G M (pc + 2) ls2 st h q Q) : aw_W G M pc ls (.ref x :: st) h q Q :=
  fun p e s m args below meth c Z hC hZ H locs lsC hL hR hS => lv_astore hC.1 hC.2.1 hd hL.has hn rfl (fun lsC hL => k p e s m args below meth c Z hC hZ H locs lsC (hl ▸ aw_L.set1 (v := .ref x) hp hL) hR hS)
theorem aw_lstore_n {j : Fin 4} {x : Int64} {ls2 : List Value} (hd : decode (aw_c M) pc = .ok (.lstore_n j, 1)) (hn : (j : Nat) + 1 < aw_nL M) (hp : aw_pok ls j = true) (hl : (ls.set j (.long x)).set ((j : Nat) + 1) aw_x = ls2) (k : aw_W G M (pc + 1) ls2 st h q Q) : aw_W G M pc ls (.long x :: st) h q Q :=
  fun p e s m args below meth c Z hC hZ H locs lsC hL hR hS => lv_lstore_n hC.1 hC.2.1 hd rfl hL.has hn rfl (fun lsC hL => k p e s m args below meth c Z hC hZ H locs lsC (hl ▸ aw_L.set2 (v := .long x) hp hL) hR hS)
theorem aw_lstore {j : Nat} {x : Int64} {ls2 : List Value} (hd : decode (aw_c M) pc = .ok (.lstore j, 2)) (hn : j + 1 < aw_nL M) (hp : aw_pok ls j = true) (hl : (ls.set j (.long x)).set (j + 1) aw_x = ls2) (k : aw_W G M (pc + 2) ls2 st h q Q) : aw_W G M pc ls (.long x :: st) h q Q :=
  fun p e s m args below meth c Z hC hZ H locs lsC hL hR hS => lv_lstore hC.1 hC.2.1 hd hL.has hn rfl (fun lsC hL => k p e s m args below meth c Z hC hZ H locs lsC (hl ▸ aw_L.set2 (v := .long x) hp hL) hR hS)
theorem aw_iinc {j : Nat} {n : Int} {x : Int32} {ls2 : List Value} (hd : decode (aw_c M) pc = .ok (.iinc j n, 3)) (hx : ls[j]? = some (.int x)) (hn : j < aw_nL M) (hp : aw_pok ls j = true) (hl : ls.set j (.int (x + Int32.ofInt n)) = ls2) (k : aw_W G M (pc + 3) ls2 st h q Q) : aw_W G M pc ls st h q Q := by
  intro p e s m args below meth c Z hC hZ H locs lsC hL hR hS
  obtain ⟨kk, hk⟩ := List.getElem?_of_mem (aw_al_in (ad := g_ad G) hx (fun z => by cases z))
  exact lv_iinc hC.1 hC.2.1 hd hL.has hk rfl hn rfl (fun lsC hL => k p e s m args below meth c Z hC hZ H locs lsC (hl ▸ aw_L.set1 (v := .int (x + Int32.ofInt n)) hp hL) hR hS)
/-- what a local holds is forgotten -/
theorem aw_kill {j : Nat} {ls2 : List Value} (hl : ls.set j aw_x = ls2) (k : aw_W G M pc ls2 st h q Q) : aw_W G M pc ls st h q Q := by
  intro p e s m args below meth c Z hC hZ H locs lsC hL hR hS
  refine k p e s m args below meth c Z hC hZ H locs lsC ⟨hL.1, hL.2.1, fun i v hi hv => ?_⟩ hR hS
  rw [← hl] at hi
  by_cases hij : j = i
  · subst hij
    rw [List.getElem?_set] at hi
    split at hi
    next => split at hi
            next => cases hi; exact absurd rfl hv
            next => cases hi
    next z => exact absurd rfl z
  · rw [List.getElem?_set_ne hij] at hi
    exact hL.2.2 i v hi hv
theorem aw_mono {Q2 : Option Value → aw_H → Prop} (hq : ∀ v h2, Q2 v h2 → Q v h2) (k : aw_W G M pc ls st h q Q2) : aw_W G M pc ls st h q Q :=
  fun p e s m args below meth c Z hC hZ => k p e s m args below meth c Z hC (fun pc2 ls2 v h2 H2 locs2 q2 hQ => hZ pc2 ls2 v h2 H2 locs2 q2 (hq v h2 hQ))
-- ends
theorem aw_ret0 (hd : decode (aw_c M) pc = .ok (.return_, 1)) (hr : aw_ret M = none) (hq : q.1 ≤ aw_mc M ∧ q.2 ≤ aw_ms M) (k : Q none h) : aw_W G M pc ls [] h q Q :=
  fun p e s m args below meth c Z hC hZ H locs lsC hL hR hS => hZ pc lsC none h H locs q k hR hS hq (Or.inl ⟨rfl, hd, hr⟩)
theorem aw_reti {x : Int32} {ty : FieldType} (hd : decode (aw_c M) pc = .ok (.ireturn, 1)) (hr : aw_ret M = some ty) (hn : narrow ty (.int x) = .int x) (hq : q.1 ≤ aw_mc M ∧ q.2 ≤ aw_ms M) (k : Q (some (.int x)) h) : aw_W G M pc ls [.int x] h q Q :=
  fun p e s m args below meth c Z hC hZ H locs lsC hL hR hS => hZ pc lsC (some (.int x)) h H locs q k hR hS hq (Or.inr (Or.inl ⟨x, ty, rfl, hd, hr, hn⟩))
theorem aw_retl {x : Int64} (hd : decode (aw_c M) pc = .ok (.lreturn, 1)) (hr : aw_ret M = some .long) (hq : q.1 ≤ aw_mc M ∧ q.2 ≤ aw_ms M) (k : Q (some (.long x)) h) : aw_W G M pc ls [.long x] h q Q :=
  fun p e s m args below meth c Z hC hZ H locs lsC hL hR hS => hZ pc lsC (some (.long x)) h H locs q k hR hS hq (Or.inr (Or.inr (Or.inl ⟨x, rfl, hd, hr⟩)))
theorem aw_reta {a : Nat} {n : String} (hd : decode (aw_c M) pc = .ok (.areturn, 1)) (hr : aw_ret M = some (.object n)) (hq : q.1 ≤ aw_mc M ∧ q.2 ≤ aw_ms M) (k : Q (some (.ref a)) h) : aw_W G M pc ls [.ref a] h q Q :=
  fun p e s m args below meth c Z hC hZ H locs lsC hL hR hS => hZ pc lsC (some (.ref a)) h H locs q k hR hS hq (Or.inr (Or.inr (Or.inr ⟨a, n, rfl, hd, hr⟩)))
end AWI
end
section
section AWH
variable {G : aw_G} {M : aw_MR} {pc : Nat} {ls st : List Value} {q : Nat × Nat} {Q : Option Value → aw_H → Prop}
variable {S : Nat → Nat × Nat} {I : Nat → Nat → Int32} {L : Nat → Nat → Int64} {R : Nat → Nat → Option Nat} {N : Nat}
/-- field j of the objects of number cl, by the entry idx of the class file of the owner -/
def aw_F (own idx cl j : Nat) : Prop := cl < 12 ∧ j < aw_N cl ∧ Cond.fieldLink (aw_nm own) idx (aw_T cl j).1 (aw_T cl j).2.1 (aw_T cl j).2.2.1 ∈ aw_tbl
theorem aw_enO {h : aw_H} {o cl n : Nat} (hs : h.1 o = (cl + 3, n)) : aw_en G h o = .inr (cl, (List.range (aw_N cl)).map (fun j => aw_fv (g_ad G) h o (aw_ty cl j) j)) := by
  unfold aw_en; rw [hs]
theorem aw_enI {h : aw_H} {o n : Nat} (hs : h.1 o = (0, n)) : aw_en G h o = .inl (g_I G, n, .inl (h.2.1 o)) := by
  unfold aw_en; rw [hs]
theorem aw_enL {h : aw_H} {o n : Nat} (hs : h.1 o = (1, n)) : aw_en G h o = .inl (g_L G, n, .inr (.inl (h.2.2.1 o))) := by
  unfold aw_en; rw [hs]
theorem aw_enR {h : aw_H} {o n : Nat} (hs : h.1 o = (2, n)) : aw_en G h o = .inl (g_R G, n, .inr (.inr (.inr (.inr (fun j => (h.2.2.2.1 o j).map (g_ad G)))))) := by
  unfold aw_en; rw [hs]
theorem aw_wo {h : aw_H} {o : Nat} (h3 : 3 ≤ o) (hN : o < h.2.2.2.2 + 3) : (aw_wl G h)[o - 3]? = some (g_b G + (o - 3), aw_en G h o) := by
  rw [aw_wl_get (by omega), show o - 3 + 3 = o by omega]
theorem aw_ado {U : State} (hF : aw_Fx G U) {o : Nat} (h3 : 3 ≤ o) : g_ad G o = g_b G + (o - 3) := by
  have h1 := hF.2.2.2.2.2.2.1 (o - 3)
  rw [show o - 3 + 3 = o by omega] at h1
  exact h1
theorem aw_get {h : aw_H} {o cl j idx n : Nat} {v : Value} (hd : decode (aw_c M) pc = .ok (.getfield idx, 3)) (hf : aw_F (aw_own M) idx cl j) (hs : h.1 o = (cl + 3, n)) (ho : 3 ≤ o ∧ o < h.2.2.2.2 + 3) (hv : ∀ ad, aw_fv ad h o (aw_ty cl j) j = aw_cv ad v)
    (k : aw_W G M (pc + 3) ls (v :: st) h q Q) : aw_W G M pc ls (.ref o :: st) h q Q := by
  intro p e s m args below meth c Z hC hZ H locs lsC hL hR hS
  have hk := k p e s m args below meth c Z hC hZ H locs lsC hL hR hS
  obtain ⟨hx, hb, hml, hown, hts, hin, hFx⟩ := id hC
  show W p (g_l G) e (aw_rm M) s m args below meth c H locs q.1 q.2 Z (F0 m pc lsC (.ref (g_ad G o) :: st.map (aw_cv (g_ad G))))
  rw [aw_ado hFx ho.1]
  refine va_get (D := g_D G) (cl := vwCl) (tys := aw_tys G) (ws := aw_wl G h) (ci := cl) (C := aw_nm cl) (T := aw_T cl) (N := aw_N cl) hx hb hts (aw_uws hf.1) hown hFx.1 hR.2.1 (o - 3) ((aw_wo ho.1 ho.2).trans (by rw [aw_enO hs])) (aw_cls hf.1) j hf.2.1 (hts _ hf.2.2) (fun x z => z) (v := aw_cv (g_ad G) v) ?_ hd hk
  rw [List.getElem?_map, List.getElem?_range hf.2.1]
  show some (aw_fv (g_ad G) h o (aw_ty cl j) j) = _
  rw [hv]
theorem aw_getI {o cl j idx n : Nat} (hd : decode (aw_c M) pc = .ok (.getfield idx, 3)) (hf : aw_F (aw_own M) idx cl j) (hs : S o = (cl + 3, n)) (ho : 3 ≤ o ∧ o < N + 3) (ht : aw_ty cl j = .int)
    (k : aw_W G M (pc + 3) ls (.int (I o j) :: st) (S, I, L, R, N) q Q) : aw_W G M pc ls (.ref o :: st) (S, I, L, R, N) q Q :=
  aw_get hd hf hs ho (fun ad => by rw [ht]; rfl) k
theorem aw_getZ {o cl j idx n : Nat} (hd : decode (aw_c M) pc = .ok (.getfield idx, 3)) (hf : aw_F (aw_own M) idx cl j) (hs : S o = (cl + 3, n)) (ho : 3 ≤ o ∧ o < N + 3) (ht : aw_ty cl j = .boolean)
    (k : aw_W G M (pc + 3) ls (.int (I o j) :: st) (S, I, L, R, N) q Q) : aw_W G M pc ls (.ref o :: st) (S, I, L, R, N) q Q :=
  aw_get hd hf hs ho (fun ad => by rw [ht]; rfl) k
theorem aw_getL {o cl j idx n : Nat} (hd : decode (aw_c M) pc = .ok (.getfield idx, 3)) (hf : aw_F (aw_own M) idx cl j) (hs : S o = (cl + 3, n)) (ho : 3 ≤ o ∧ o < N + 3) (ht : aw_ty cl j = .long)
    (k : aw_W G M (pc + 3) ls (.long (L o j) :: st) (S, I, L, R, N) q Q) : aw_W G M pc ls (.ref o :: st) (S, I, L, R, N) q Q :=
  aw_get hd hf hs ho (fun ad => by rw [ht]; rfl) k
/-- is it a type of references -/
def aw_isR : FieldType → Bool
  | .object _ => true
  | .array _ => true
  | _ => false
theorem aw_getR {o cl j idx n a : Nat} (hd : decode (aw_c M) pc = .ok (.getfield idx, 3)) (hf : aw_F (aw_own M) idx cl j) (hs : S o = (cl + 3, n)) (ho : 3 ≤ o ∧ o < N + 3) (ht : aw_isR (aw_ty cl j) = true) (ha : R o j = some a)
    (k : aw_W G M (pc + 3) ls (.ref a :: st) (S, I, L, R, N) q Q) : aw_W G M pc ls (.ref o :: st) (S, I, L, R, N) q Q :=
  aw_get hd hf hs ho (fun ad => by
    cases hty : aw_ty cl j with
    | object z => show va_rf ((R o j).map ad) = _; rw [ha]; rfl
    | array z => show va_rf ((R o j).map ad) = _; rw [ha]; rfl
    | _ => rw [hty] at ht; cases ht) k
theorem aw_Rep_of {h2 : aw_H} {H : Heap} (hN : H.size = g_b G + h2.2.2.2.2) (hP : va_P (g_D G) vwCl (aw_wl G h2) H) (hr : ∀ o, o < 3 → h2.1 o = (0, g_rn G o) ∧ h2.2.1 o = g_ro G o) : aw_Rep G h2 H := ⟨hN, hP, hr⟩
/-- one object holds something else -/
theorem aw_put {h h2 : aw_H} {o cl j idx n : Nat} {v : Value} (hd : decode (aw_c M) pc = .ok (.putfield idx, 3)) (hf : aw_F (aw_own M) idx cl j) (hs : h.1 o = (cl + 3, n)) (ho : 3 ≤ o ∧ o < h.2.2.2.2 + 3)
    (hfin : (aw_T cl j).2.2.2 = false ∨ (aw_ini M = true ∧ (aw_T cl j).1 = aw_nm (aw_own M))) (hn : ∀ ad, narrow (aw_ty cl j) (aw_cv ad v) = aw_cv ad v) (hfit : ∀ ad, fits (aw_ty cl j) (aw_cv ad v) = true)
    (hN2 : h2.2.2.2.2 = h.2.2.2.2) (hsh : h2.1 = h.1) (hro : ∀ a, a < 3 → h2.2.1 a = h.2.1 a) (hoth : ∀ k, k ≠ o → aw_en G h2 k = aw_en G h k) (hj : ∀ ad i, i < aw_N cl → aw_fv ad h2 o (aw_ty cl i) i = if i = j then aw_cv ad v else aw_fv ad h o (aw_ty cl i) i)
    (k : aw_W G M (pc + 3) ls st h2 q Q) : aw_W G M pc ls (v :: .ref o :: st) h q Q := by
  intro p e s m args below meth c Z hC hZ H locs lsC hL hR hS
  obtain ⟨hx, hb, hml, hown, hts, hin, hFx⟩ := id hC
  show W p (g_l G) e (aw_rm M) s m args below meth c H locs q.1 q.2 Z (F0 m pc lsC (aw_cv (g_ad G) v :: .ref (g_ad G o) :: st.map (aw_cv (g_ad G))))
  rw [aw_ado hFx ho.1]
  have hs2 : h2.1 o = (cl + 3, n) := by rw [hsh]; exact hs
  have he : (aw_wl G h)[o - 3]? = some (g_b G + (o - 3), .inr (cl, (List.range (aw_N cl)).map (fun j => aw_fv (g_ad G) h o (aw_ty cl j) j))) := (aw_wo ho.1 ho.2).trans (by rw [aw_enO hs])
  have hset : (aw_wl G h).set (o - 3) (g_b G + (o - 3), .inr (cl, ((List.range (aw_N cl)).map (fun j => aw_fv (g_ad G) h o (aw_ty cl j) j)).set j (aw_cv (g_ad G) v))) = aw_wl G h2 := by
    have h1 := aw_wl_set (G := G) (h := h) (h2 := h2) (i := o - 3) hN2 (fun k hk => hoth k (by omega))
    rw [show o - 3 + 3 = o by omega, aw_enO hs2] at h1
    rw [← h1]
    congr 4
    apply List.ext_getElem?
    intro i
    rw [List.getElem?_set, List.getElem?_map, List.getElem?_map]
    by_cases hi : i < aw_N cl
    · rw [List.getElem?_range hi]
      by_cases hij : j = i
      · subst hij
        rw [if_pos rfl, if_pos (by simpa using hi)]
        show _ = some (aw_fv (g_ad G) h2 o (aw_ty cl j) j)
        rw [hj _ _ hi, if_pos rfl]
      · rw [if_neg hij]
        show some _ = some (aw_fv (g_ad G) h2 o (aw_ty cl i) i)
        rw [hj _ _ hi, if_neg (fun z => hij z.symm)]
    · rw [List.getElem?_eq_none (by simpa using hi)]
      by_cases hij : j = i
      · subst hij
        rw [if_pos rfl, if_neg (by simpa using hi)]; rfl
      · rw [if_neg hij]; rfl
  have hD : va_D (aw_A G) (aw_wl G h) := aw_wl_D
  obtain ⟨r, z1, cell, c1, c2, c3, c4⟩ := hR.2.1 _ _ he
  have hr : r = (aw_nm cl, aw_T cl, aw_N cl) := Option.some.inj (z1.symm.trans (aw_cls hf.1))
  subst hr
  obtain ⟨hSl, hfc, kC, hkC, hkind⟩ := hFx.1.1 cl _ (aw_cls hf.1)
  obtain ⟨cf, kf, fi, f, hi, hsl⟩ := hSl j hf.2.1
  have hap := va_apart (own := aw_nm (aw_own M)) hts (aw_uws hf.1) (aw_ty cl) (aw_tyk hf.1) (aw_nmk hf.1) hFx.1 (aw_cls hf.1)
  have hst := (u_facts hfc hkC (u_lays hts (aw_uws hf.1) hf.2.1) hi).1
  have hlay := hts _ (aw_uws hf.1 _ (u_in_lay hf.2.1))
  have hk : ∀ H1 : Heap, H1[g_b G + (o - 3)]? = some (cell.setSlot f.slot (aw_cv (g_ad G) v)) → H1.size = H.size → (∀ a : Nat, a ≠ g_b G + (o - 3) → H1[a]? = H[a]?) → W p (g_l G) e (aw_rm M) s m args below meth c H1 (locs ++ [⟨g_b G + (o - 3), f.slot⟩]) q.1 q.2 Z (F0 m (pc + 3) lsC (st.map (aw_cv (g_ad G)))) := by
    intro H1 e1 e2 e3
    rw [hsl] at e1
    have hP1 := hR.2.1.set hD he (H1 := H1) (e := .inr (cl, ((List.range (aw_N cl)).map (fun j => aw_fv (g_ad G) h o (aw_ty cl j) j)).set j (aw_cv (g_ad G) v))) ⟨_, aw_cls hf.1, t_OB.to (V := updV (vp_V ((List.range (aw_N cl)).map (fun j => aw_fv (g_ad G) h o (aw_ty cl j) j))) j (aw_cv (g_ad G) v)) ⟨_, e1, c2, c3, t_set c4 hap hf.2.1 _⟩ (fun i _ => vp_updV_set (by simpa using hf.2.1) _ i)⟩ e3
    rw [hset] at hP1
    exact k p e s m args below meth c Z hC hZ H1 _ lsC hL ⟨by rw [e2, hN2]; exact hR.1, hP1, fun a ha => ⟨by rw [hsh]; exact (hR.2.2 a ha).1, by rw [hro a ha]; exact (hR.2.2 a ha).2⟩⟩ (hS.put e2 e3 (Nat.le_add_right _ _))
  rcases hfin with hfin | ⟨hini, hdecl⟩
  · unfold u_lay at hlay
    rw [if_neg (by rw [hfin]; decide)] at hlay
    have h6 := u_store hfc hkC hkind hlay hi (aw_tyk hf.1 j hf.2.1) (hn (g_ad G)) (hfit (g_ad G))
    exact W.putK hx hb (f := f) ⟨hown, hts _ hf.2.2, ⟨_, _, _, hi⟩, hst⟩ (by rw [c2]; exact h6) c1 c3 (by rw [hsl]; exact k2_hasslot (c4 j hf.2.1)) rfl rfl hd hk
  · cases hfn : (aw_T cl j).2.2.2 with
    | false =>
      unfold u_lay at hlay
      rw [if_neg (by rw [hfn]; decide)] at hlay
      have h6 := u_store hfc hkC hkind hlay hi (aw_tyk hf.1 j hf.2.1) (hn (g_ad G)) (hfit (g_ad G))
      exact W.putK hx hb (f := f) ⟨hown, hts _ hf.2.2, ⟨_, _, _, hi⟩, hst⟩ (by rw [c2]; exact h6) c1 c3 (by rw [hsl]; exact k2_hasslot (c4 j hf.2.1)) rfl rfl hd hk
    | true =>
      unfold u_lay at hlay
      rw [if_pos hfn] at hlay
      have hcf : m.cls = cf := by
        obtain ⟨_, _, c', _, _, _, -, -, hf', -, -, -, hown2, -⟩ := Cond.laysFinal_spec hlay
        have e1 : c' = cf := by have := hi.symm.trans hf'; simp at this; exact this.1.symm
        rw [hdecl] at hown2
        rw [← e1]; exact Option.some.inj (hown.symm.trans hown2)
      have h6 := u_fits hfc hkC hkind (Or.inr hlay) hi (aw_tyk hf.1 j hf.2.1) (hn (g_ad G)) (hfit (g_ad G))
      exact W.putFinK hx hb hown (hts _ hf.2.2) hi hst hcf (hin hini) (by rw [c2]; exact h6) c1 c3 (by rw [hsl]; exact k2_hasslot (c4 j hf.2.1)) rfl rfl hd hk
end AWH
end
section
def aw_u {α : Type} (F : Nat → Nat → α) (o j : Nat) (x : α) : Nat → Nat → α := va_up F o (va_up (F o) j x)
section AWH2
variable {G : aw_G} {M : aw_MR} {pc : Nat} {ls st : List Value} {q : Nat × Nat} {Q : Option Value → aw_H → Prop}
variable {S : Nat → Nat × Nat} {I : Nat → Nat → Int32} {L : Nat → Nat → Int64} {R : Nat → Nat → Option Nat} {N : Nat}
theorem aw_u_row {α : Type} {F : Nat → Nat → α} {o j : Nat} {x : α} : aw_u F o j x o = va_up (F o) j x := by simp [aw_u, va_up]
theorem aw_u_ne {α : Type} {F : Nat → Nat → α} {o j a : Nat} {x : α} (h : a ≠ o) : aw_u F o j x a = F a := by simp [aw_u, va_up, h]
theorem aw_u_eq {α : Type} {F : Nat → Nat → α} {o j : Nat} {x : α} : aw_u F o j x o j = x := by simp [aw_u, va_up]
theorem aw_u_nj {α : Type} {F : Nat → Nat → α} {o j b : Nat} {x : α} (h : b ≠ j) : aw_u F o j x o b = F o b := by simp [aw_u, va_up, h]
theorem aw_en_congr {h h2 : aw_H} {k : Nat} (h1 : h2.1 k = h.1 k) (hI : h2.2.1 k = h.2.1 k) (hL : h2.2.2.1 k = h.2.2.1 k) (hR : h2.2.2.2.1 k = h.2.2.2.1 k) : aw_en G h2 k = aw_en G h k := by
  unfold aw_en
  rw [h1, hI, hL, hR]
  split <;> first | rfl | skip
  congr 2
  apply List.map_congr_left
  intro j _
  unfold aw_fv
  rw [hI, hL, hR]
theorem aw_put0 {o cl j idx n : Nat} {x : Int32} (hd : decode (aw_c M) pc = .ok (.putfield idx, 3)) (hf : aw_F (aw_own M) idx cl j) (hs : S o = (cl + 3, n)) (ho : 3 ≤ o ∧ o < N + 3)
    (hfin : (aw_T cl j).2.2.2 = false ∨ (aw_ini M = true ∧ (aw_T cl j).1 = aw_nm (aw_own M))) (ht : aw_ty cl j = .int ∨ (aw_ty cl j = .boolean ∧ (x = 0 ∨ x = 1)))
    (k : aw_W G M (pc + 3) ls st (S, aw_u I o j x, L, R, N) q Q) : aw_W G M pc ls (.int x :: .ref o :: st) (S, I, L, R, N) q Q := by
  refine aw_put (h := (S, I, L, R, N)) (h2 := (S, aw_u I o j x, L, R, N)) (v := .int x) hd hf hs ho hfin ?_ ?_ rfl rfl (fun a ha => aw_u_ne (show a ≠ o by omega)) (fun k hk => aw_en_congr rfl (aw_u_ne hk) rfl rfl) ?_ k
  · intro ad
    rcases ht with ht | ⟨ht, rfl | rfl⟩
    · rw [ht]; rfl
    · rw [ht]; rfl
    · rw [ht]; rfl
  · intro ad
    rcases ht with ht | ⟨ht, rfl | rfl⟩
    · rw [ht]; rfl
    · rw [ht]; rfl
    · rw [ht]; rfl
  · intro ad i hi
    by_cases hij : i = j
    · subst hij
      rw [if_pos rfl]
      rcases ht with ht | ⟨ht, -⟩ <;> rw [ht] <;> simp [aw_fv, aw_u, va_up, aw_cv]
    · rw [if_neg hij]
      cases aw_ty cl i <;> simp [aw_fv, aw_u, va_up, hij]
theorem aw_putI {o cl j idx n : Nat} {x : Int32} (hd : decode (aw_c M) pc = .ok (.putfield idx, 3)) (hf : aw_F (aw_own M) idx cl j) (hs : S o = (cl + 3, n)) (ho : 3 ≤ o ∧ o < N + 3)
    (hfin : (aw_T cl j).2.2.2 = false ∨ (aw_ini M = true ∧ (aw_T cl j).1 = aw_nm (aw_own M))) (ht : aw_ty cl j = .int)
    (k : aw_W G M (pc + 3) ls st (S, aw_u I o j x, L, R, N) q Q) : aw_W G M pc ls (.int x :: .ref o :: st) (S, I, L, R, N) q Q := aw_put0 hd hf hs ho hfin (Or.inl ht) k
theorem aw_putZ {o cl j idx n : Nat} {x : Int32} (hd : decode (aw_c M) pc = .ok (.putfield idx, 3)) (hf : aw_F (aw_own M) idx cl j) (hs : S o = (cl + 3, n)) (ho : 3 ≤ o ∧ o < N + 3)
    (hfin : (aw_T cl j).2.2.2 = false ∨ (aw_ini M = true ∧ (aw_T cl j).1 = aw_nm (aw_own M))) (ht : aw_ty cl j = .boolean) (hx : x = 0 ∨ x = 1)
    (k : aw_W G M (pc + 3) ls st (S, aw_u I o j x, L, R, N) q Q) : aw_W G M pc ls (.int x :: .ref o :: st) (S, I, L, R, N) q Q := aw_put0 hd hf hs ho hfin (Or.inr ⟨ht, hx⟩) k
theorem aw_putL {o cl j idx n : Nat} {x : Int64} (hd : decode (aw_c M) pc = .ok (.putfield idx, 3)) (hf : aw_F (aw_own M) idx cl j) (hs : S o = (cl + 3, n)) (ho : 3 ≤ o ∧ o < N + 3)
    (hfin : (aw_T cl j).2.2.2 = false ∨ (aw_ini M = true ∧ (aw_T cl j).1 = aw_nm (aw_own M))) (ht : aw_ty cl j = .long)
    (k : aw_W G M (pc + 3) ls st (S, I, aw_u L o j x, R, N) q Q) : aw_W G M pc ls (.long x :: .ref o :: st) (S, I, L, R, N) q Q := by
  refine aw_put (h := (S, I, L, R, N)) (h2 := (S, I, aw_u L o j x, R, N)) (v := .long x) hd hf hs ho hfin (fun ad => by rw [ht]; rfl) (fun ad => by rw [ht]; rfl) rfl rfl (fun a ha => rfl) (fun k hk => aw_en_congr rfl rfl (aw_u_ne hk) rfl) ?_ k
  intro ad i hi
  by_cases hij : i = j
  · subst hij
    rw [if_pos rfl, ht]; simp [aw_fv, aw_u, va_up, aw_cv]
  · rw [if_neg hij]
    cases aw_ty cl i <;> simp [aw_fv, aw_u, va_up, hij]
theorem aw_putR {o cl j idx n a : Nat} (hd : decode (aw_c M) pc = .ok (.putfield idx, 3)) (hf : aw_F (aw_own M) idx cl j) (hs : S o = (cl + 3, n)) (ho : 3 ≤ o ∧ o < N + 3)
    (hfin : (aw_T cl j).2.2.2 = false ∨ (aw_ini M = true ∧ (aw_T cl j).1 = aw_nm (aw_own M))) (ht : aw_isR (aw_ty cl j) = true)
    (k : aw_W G M (pc + 3) ls st (S, I, L, aw_u R o j (some a), N) q Q) : aw_W G M pc ls (.ref a :: .ref o :: st) (S, I, L, R, N) q Q := by
  refine aw_put (h := (S, I, L, R, N)) (h2 := (S, I, L, aw_u R o j (some a), N)) (v := .ref a) hd hf hs ho hfin ?_ ?_ rfl rfl (fun a ha => rfl) (fun k hk => aw_en_congr rfl rfl rfl (aw_u_ne hk)) ?_ k
  · intro ad
    cases hty : aw_ty cl j <;> first | rfl | (rw [hty] at ht; cases ht)
  · intro ad
    cases hty : aw_ty cl j <;> first | rfl | (rw [hty] at ht; cases ht)
  · intro ad i hi
    by_cases hij : i = j
    · subst hij
      rw [if_pos rfl]
      cases hty : aw_ty cl i <;> first | (simp [aw_fv, aw_u, va_up, aw_cv, va_rf]; done) | (rw [hty] at ht; cases ht)
    · rw [if_neg hij]
      cases aw_ty cl i <;> simp [aw_fv, aw_u, va_up, hij]
/-- a row of ints is read: an object's, or one of the three that nobody writes -/
theorem aw_iald {o n : Nat} {i : Int32} (hd : decode (aw_c M) pc = .ok (.iaload, 1)) (hs : S o = (0, n)) (ho : o < N + 3) (hi : vp_in i n)
    (k : aw_W G M (pc + 1) ls (.int (I o i.toNatClampNeg) :: st) (S, I, L, R, N) q Q) : aw_W G M pc ls (.int i :: .ref o :: st) (S, I, L, R, N) q Q := by
  intro p e s m args below meth c Z hC hZ H locs lsC hL hR hS
  have hk := k p e s m args below meth c Z hC hZ H locs lsC hL hR hS
  obtain ⟨hx, hb, hml, hown, hts, hin, hFx⟩ := id hC
  by_cases h3 : 3 ≤ o
  · show W p (g_l G) e (aw_rm M) s m args below meth c H locs q.1 q.2 Z (F0 m pc lsC (.int i :: .ref (g_ad G o) :: st.map (aw_cv (g_ad G))))
    rw [aw_ado hFx h3]
    exact va_iald hx hb hFx.1 hR.2.1 (o - 3) 0 ((aw_wo h3 ho).trans (by rw [aw_enI hs])) rfl hi hd hk
  · obtain ⟨r1, r2⟩ := hR.2.2 o (by omega)
    have hn : n = g_rn G o := by
      have z : ((0, n) : Nat × Nat) = (0, g_rn G o) := hs.symm.trans r1
      exact congrArg Prod.snd z
    subst hn
    have r3 : I o = g_ro G o := r2
    exact va_ti hx hb (hFx.2.2.2.1 o (by omega)) hS hi (v := .int (I o i.toNatClampNeg)) (by rw [r3]) hd hk
end AWH2
end
section
section AWH3
variable {G : aw_G} {M : aw_MR} {pc : Nat} {ls st : List Value} {q : Nat × Nat} {Q : Option Value → aw_H → Prop}
variable {S : Nat → Nat × Nat} {I : Nat → Nat → Int32} {L : Nat → Nat → Int64} {R : Nat → Nat → Option Nat} {N : Nat}
/-- one cell is written -/
theorem aw_Rep.wr {h h2 : aw_H} {H H1 : Heap} {o : Nat} (hR : aw_Rep G h H) (ho : 3 ≤ o ∧ o < h.2.2.2.2 + 3) (hN2 : h2.2.2.2.2 = h.2.2.2.2) (hsh : h2.1 = h.1) (hro : ∀ a, a < 3 → h2.2.1 a = h.2.1 a) (hoth : ∀ k, k ≠ o → aw_en G h2 k = aw_en G h k)
    (he : va_at (g_D G) vwCl (g_b G + (o - 3), aw_en G h2 o) H1) (hz : H1.size = H.size) (oq : ∀ a : Nat, a ≠ g_b G + (o - 3) → H1[a]? = H[a]?) : aw_Rep G h2 H1 := by
  refine ⟨by rw [hz, hN2]; exact hR.1, ?_, fun a ha => ⟨by rw [hsh]; exact (hR.2.2 a ha).1, by rw [hro a ha]; exact (hR.2.2 a ha).2⟩⟩
  have h1 := aw_wl_set (G := G) (h := h) (h2 := h2) (i := o - 3) hN2 (fun k hk => hoth k (by omega))
  rw [show o - 3 + 3 = o by omega] at h1
  rw [← h1]
  exact hR.2.1.set aw_wl_D (aw_wo ho.1 ho.2) he oq
theorem aw_iast {o n : Nat} {i x : Int32} (hd : decode (aw_c M) pc = .ok (.iastore, 1)) (hs : S o = (0, n)) (ho : 3 ≤ o ∧ o < N + 3) (hi : vp_in i n)
    (k : aw_W G M (pc + 1) ls st (S, aw_u I o i.toNatClampNeg x, L, R, N) q Q) : aw_W G M pc ls (.int x :: .int i :: .ref o :: st) (S, I, L, R, N) q Q := by
  intro p e s m args below meth c Z hC hZ H locs lsC hL hR hS
  obtain ⟨hx, hb, hml, hown, hts, hin, hFx⟩ := id hC
  show W p (g_l G) e (aw_rm M) s m args below meth c H locs q.1 q.2 Z (F0 m pc lsC (.int x :: .int i :: .ref (g_ad G o) :: st.map (aw_cv (g_ad G))))
  rw [aw_ado hFx ho.1]
  have he : (aw_wl G (S, I, L, R, N))[o - 3]? = some (g_b G + (o - 3), .inl (g_I G, n, .inl (I o))) := (aw_wo ho.1 ho.2).trans (by rw [aw_enI hs])
  refine W.iast hx hb (hR.2.1 _ _ he) ((hFx.1.2 0 _ rfl).1 n (fun j => .int (I o j))) (fun z => by cases z) (by show ¬ (i < 0 ∨ (arrV _ _ _).slots.size ≤ _); rw [arrV_size]; exact hi) rfl rfl hd fun H1 e1 z1 oq => ?_
  refine k p e s m args below meth c Z hC hZ H1 _ lsC hL (hR.wr (h2 := (S, aw_u I o i.toNatClampNeg x, L, R, N)) ho rfl rfl (fun a ha => aw_u_ne (show a ≠ o by omega)) (fun k hk => aw_en_congr rfl (aw_u_ne hk) rfl rfl) ?_ z1 oq) (hS.put z1 oq (Nat.le_add_right _ _))
  rw [aw_enI (h := (S, aw_u I o i.toNatClampNeg x, L, R, N)) hs]
  show H1[_]? = some (vp_cell _ _)
  rw [e1, vp_cell_i, vp_cell_i, arrV_store]
  congr 2
  funext j
  by_cases hj : j = i.toNatClampNeg
  · subst hj; simp [updV, aw_u, va_up]
  · simp [updV, aw_u, va_up, hj]
theorem aw_lald {o n : Nat} {i : Int32} (hd : decode (aw_c M) pc = .ok (.laload, 1)) (hs : S o = (1, n)) (ho : 3 ≤ o ∧ o < N + 3) (hi : vp_in i n)
    (k : aw_W G M (pc + 1) ls (.long (L o i.toNatClampNeg) :: st) (S, I, L, R, N) q Q) : aw_W G M pc ls (.int i :: .ref o :: st) (S, I, L, R, N) q Q := by
  intro p e s m args below meth c Z hC hZ H locs lsC hL hR hS
  have hk := k p e s m args below meth c Z hC hZ H locs lsC hL hR hS
  obtain ⟨hx, hb, hml, hown, hts, hin, hFx⟩ := id hC
  show W p (g_l G) e (aw_rm M) s m args below meth c H locs q.1 q.2 Z (F0 m pc lsC (.int i :: .ref (g_ad G o) :: st.map (aw_cv (g_ad G))))
  rw [aw_ado hFx ho.1]
  exact va_lald hx hb hFx.1 hR.2.1 (o - 3) 1 ((aw_wo ho.1 ho.2).trans (by rw [aw_enL hs])) rfl hi hd hk
theorem aw_last {o n : Nat} {i : Int32} {x : Int64} (hd : decode (aw_c M) pc = .ok (.lastore, 1)) (hs : S o = (1, n)) (ho : 3 ≤ o ∧ o < N + 3) (hi : vp_in i n)
    (k : aw_W G M (pc + 1) ls st (S, I, aw_u L o i.toNatClampNeg x, R, N) q Q) : aw_W G M pc ls (.long x :: .int i :: .ref o :: st) (S, I, L, R, N) q Q := by
  intro p e s m args below meth c Z hC hZ H locs lsC hL hR hS
  obtain ⟨hx, hb, hml, hown, hts, hin, hFx⟩ := id hC
  show W p (g_l G) e (aw_rm M) s m args below meth c H locs q.1 q.2 Z (F0 m pc lsC (.long x :: .int i :: .ref (g_ad G o) :: st.map (aw_cv (g_ad G))))
  rw [aw_ado hFx ho.1]
  have he : (aw_wl G (S, I, L, R, N))[o - 3]? = some (g_b G + (o - 3), .inl (g_L G, n, .inr (.inl (L o)))) := (aw_wo ho.1 ho.2).trans (by rw [aw_enL hs])
  refine W.last hx hb (hR.2.1 _ _ he) ((hFx.1.2 1 _ rfl).1 n (fun j => .long (L o j))) (fun z => by cases z) (by show ¬ (i < 0 ∨ (arrV _ _ _).slots.size ≤ _); rw [arrV_size]; exact hi) rfl rfl hd fun H1 e1 z1 oq => ?_
  refine k p e s m args below meth c Z hC hZ H1 _ lsC hL (hR.wr (h2 := (S, I, aw_u L o i.toNatClampNeg x, R, N)) ho rfl rfl (fun a ha => rfl) (fun k hk => aw_en_congr rfl rfl (aw_u_ne hk) rfl) ?_ z1 oq) (hS.put z1 oq (Nat.le_add_right _ _))
  rw [aw_enL (h := (S, I, aw_u L o i.toNatClampNeg x, R, N)) hs]
  show H1[_]? = some (vp_cell _ _)
  rw [e1, vp_cell_l, vp_cell_l, arrV_store]
  congr 2
  funext j
  by_cases hj : j = i.toNatClampNeg
  · subst hj; simp [updV, aw_u, va_up]
  · simp [updV, aw_u, va_up, hj]
theorem aw_aald {o n a : Nat} {i : Int32} (hd : decode (aw_c M) pc = .ok (.aaload, 1)) (hs : S o = (2, n)) (ho : 3 ≤ o ∧ o < N + 3) (hi : vp_in i n) (ha : R o i.toNatClampNeg = some a)
    (k : aw_W G M (pc + 1) ls (.ref a :: st) (S, I, L, R, N) q Q) : aw_W G M pc ls (.int i :: .ref o :: st) (S, I, L, R, N) q Q := by
  intro p e s m args below meth c Z hC hZ H locs lsC hL hR hS
  have hk := k p e s m args below meth c Z hC hZ H locs lsC hL hR hS
  obtain ⟨hx, hb, hml, hown, hts, hin, hFx⟩ := id hC
  show W p (g_l G) e (aw_rm M) s m args below meth c H locs q.1 q.2 Z (F0 m pc lsC (.int i :: .ref (g_ad G o) :: st.map (aw_cv (g_ad G))))
  rw [aw_ado hFx ho.1]
  refine va_aldq hx hb hFx.1 hR.2.1 (o - 3) 2 ((aw_wo ho.1 ho.2).trans (by rw [aw_enR hs])) rfl hi hd ?_
  show W p (g_l G) e (aw_rm M) s m args below meth c H locs q.1 q.2 Z (F0 m (pc + 1) lsC (va_rf ((R o i.toNatClampNeg).map (g_ad G)) :: _))
  rw [ha]
  exact hk
theorem aw_aast {o n a n2 : Nat} {i : Int32} (hd : decode (aw_c M) pc = .ok (.aastore, 1)) (hs : S o = (2, n)) (ho : 3 ≤ o ∧ o < N + 3) (hi : vp_in i n) (hsa : S a = (8 + 3, n2)) (hoa : 3 ≤ a ∧ a < N + 3)
    (k : aw_W G M (pc + 1) ls st (S, I, L, aw_u R o i.toNatClampNeg (some a), N) q Q) : aw_W G M pc ls (.ref a :: .int i :: .ref o :: st) (S, I, L, R, N) q Q := by
  intro p e s m args below meth c Z hC hZ H locs lsC hL hR hS
  obtain ⟨hx, hb, hml, hown, hts, hin, hFx⟩ := id hC
  show W p (g_l G) e (aw_rm M) s m args below meth c H locs q.1 q.2 Z (F0 m pc lsC (.ref (g_ad G a) :: .int i :: .ref (g_ad G o) :: st.map (aw_cv (g_ad G))))
  have hada := aw_ado hFx hoa.1
  rw [aw_ado hFx ho.1, hada]
  have he : (aw_wl G (S, I, L, R, N))[o - 3]? = some (g_b G + (o - 3), .inl (g_R G, n, .inr (.inr (.inr (.inr (fun j => (R o j).map (g_ad G))))))) := (aw_wo ho.1 ho.2).trans (by rw [aw_enR hs])
  have hv : (aw_wl G (S, I, L, R, N))[a - 3]? = some (g_b G + (a - 3), .inr (8, (List.range (aw_N 8)).map (fun j => aw_fv (g_ad G) (S, I, L, R, N) a (aw_ty 8 j) j))) := (aw_wo hoa.1 hoa.2).trans (by rw [aw_enO hsa])
  have hlt : i.toNatClampNeg < n := Nat.not_le.mp fun z => hi (Or.inr z)
  have h0 : ¬ i < 0 := fun z => hi (Or.inl z)
  obtain ⟨r', hr', cellV, g1, g2, g3, -⟩ := hR.2.1 _ _ hv
  have hcls := (hFx.1.1 8 (RX8, TX8, 4) rfl).2
  obtain ⟨kA, comp, k1, k2, k3, -⟩ := (hFx.1.2 2 _ rfl).2
  have hcomp : comp = (g_D G).1 8 := Option.some.inj (k3.symm.trans hcls.1)
  subst hcomp
  obtain ⟨kC, hkC, -⟩ := hcls.2
  refine W.aast hx hb (hR.2.1 _ _ he) (fun z h => by cases h) (fun h => by cases h) k1 k2 rfl hkC ⟨h0, by show _ < (arrV _ _ _).slots.size; rw [arrV_size]; exact hlt⟩ g1 (fun z h => by rw [g3] at h; cases h) (by rw [g2]; exact hkC) (by rw [g2]; exact va_assign hcls) rfl rfl hd fun H1 e1 z1 oq => ?_
  refine k p e s m args below meth c Z hC hZ H1 _ lsC hL (hR.wr (h2 := (S, I, L, aw_u R o i.toNatClampNeg (some a), N)) ho rfl rfl (fun a ha => rfl) (fun k hk => aw_en_congr rfl rfl rfl (aw_u_ne hk)) ?_ z1 oq) (hS.put z1 oq (Nat.le_add_right _ _))
  rw [aw_enR (h := (S, I, L, aw_u R o i.toNatClampNeg (some a), N)) hs]
  show H1[_]? = some (vp_cell _ _)
  rw [e1, vp_cell_q, vp_cell_q, arrV_store]
  congr 2
  funext j
  by_cases hj : j = i.toNatClampNeg
  · subst hj; simp [updV, aw_u, va_up, va_rf, hada]
  · simp [updV, aw_u, va_up, hj]
theorem aw_alen {o n : Nat} (hd : decode (aw_c M) pc = .ok (.arraylength, 1)) (hs : S o = (0, n)) (ho : o < N + 3)
    (k : aw_W G M (pc + 1) ls (.int (Int32.ofNat n) :: st) (S, I, L, R, N) q Q) : aw_W G M pc ls (.ref o :: st) (S, I, L, R, N) q Q := by
  intro p e s m args below meth c Z hC hZ H locs lsC hL hR hS
  have hk := k p e s m args below meth c Z hC hZ H locs lsC hL hR hS
  obtain ⟨hx, hb, hml, hown, hts, hin, hFx⟩ := id hC
  by_cases h3 : 3 ≤ o
  · show W p (g_l G) e (aw_rm M) s m args below meth c H locs q.1 q.2 Z (F0 m pc lsC (.ref (g_ad G o) :: st.map (aw_cv (g_ad G))))
    rw [aw_ado hFx h3]
    exact va_alen hx hb hFx.1 hR.2.1 (o - 3) 0 (x := (n, .inl (I o))) ((aw_wo h3 ho).trans (by rw [aw_enI hs])) rfl rfl hd hk
  · obtain ⟨r1, r2⟩ := hR.2.2 o (by omega)
    have hn : n = g_rn G o := by
      have z : ((0, n) : Nat × Nat) = (0, g_rn G o) := hs.symm.trans r1
      exact congrArg Prod.snd z
    subst hn
    exact va_tlen hx hb (hFx.2.2.2.1 o (by omega)) hS rfl hd hk
def aw_tok : FieldType → Bool
  | .int => true
  | .boolean => true
  | .long => true
  | .object _ => true
  | .array _ => true
  | _ => false
theorem aw_toks {cl : Nat} (hc : cl < 12) : ∀ j, j < aw_N cl → aw_tok (aw_ty cl j) = true := by
  match cl, hc with
  | 0, _ => decide
  | 1, _ => decide
  | 2, _ => decide
  | 3, _ => decide
  | 4, _ => decide
  | 5, _ => decide
  | 6, _ => decide
  | 7, _ => decide
  | 8, _ => decide
  | 9, _ => decide
  | 10, _ => decide
  | 11, _ => decide
  | c + 12, h => omega
/-- a heap with one object more, all of it empty -/
abbrev aw_nw (S : Nat → Nat × Nat) (I : Nat → Nat → Int32) (L : Nat → Nat → Int64) (R : Nat → Nat → Option Nat) (N : Nat) (x : Nat × Nat) : aw_H := (va_up S (N + 3) x, va_up I (N + 3) (fun _ => 0), va_up L (N + 3) (fun _ => 0), va_up R (N + 3) (fun _ => none), N + 1)
theorem aw_Rep.push {H H1 : Heap} {x : Nat × Nat} (hR : aw_Rep G (S, I, L, R, N) H) (hz : H1.size = H.size + 1) (oq : ∀ a : Nat, a < H.size → H1[a]? = H[a]?) (he : va_at (g_D G) vwCl (g_b G + N, aw_en G (aw_nw S I L R N x) (N + 3)) H1) : aw_Rep G (aw_nw S I L R N x) H1 := by
  obtain ⟨h1, h2, h3⟩ := hR
  refine ⟨by rw [hz, h1]; rfl, ?_, fun o ho => ?_⟩
  · intro k y hk
    by_cases hkN : k < N
    · have hy : (aw_wl G (S, I, L, R, N))[k]? = some y := by
        rw [aw_wl_get (show k < N + 1 by omega)] at hk
        rw [aw_wl_get (h := (S, I, L, R, N)) hkN, ← hk, aw_en_congr (h := (S, I, L, R, N)) (h2 := aw_nw S I L R N x) (k := k + 3)]
        · simp [va_up]; omega
        · simp [va_up]; omega
        · simp [va_up]; omega
        · simp [va_up]; omega
      have hv := h2 k y hy
      exact hv.kept (oq y.1 hv.lt)
    · have hkN1 : k = N := by
        have hz1 := (List.getElem?_eq_some_iff.mp hk).1
        simp [aw_wl] at hz1
        omega
      subst hkN1
      rw [aw_wl_get (show k < k + 1 by omega)] at hk
      cases hk
      exact he
  · obtain ⟨r1, r2⟩ := h3 o ho
    exact ⟨by show va_up S (N + 3) x o = _; rw [← r1]; simp [va_up]; omega, by show va_up I (N + 3) _ o = _; rw [← r2]; simp [va_up]; omega⟩
theorem aw_S_push {A : Nat → Prop} {H0 H H1 : Heap} {locs : List Loc} (hS : va_S A H0 H locs) (hz : H1.size = H.size + 1) (oq : ∀ a : Nat, a < H.size → H1[a]? = H[a]?) : va_S A H0 H1 locs :=
  ⟨by rw [hz]; exact Nat.le_succ_of_le hS.1, fun x h1 h2 => (oq x (Nat.lt_of_lt_of_le h1 hS.1)).trans (hS.2.1 x h1 h2), hS.2.2⟩
theorem aw_new {cl idx : Nat} (hd : decode (aw_c M) pc = .ok (.new idx, 3)) (hc : cl < 12) (hw1 : Cond.classLink (aw_nm (aw_own M)) idx (aw_nm cl) ∈ aw_tbl) (hw2 : Cond.instantiable (aw_nm cl) (aw_N cl) ∈ aw_tbl) (hw3 : Cond.initialized (aw_nm cl) ∈ aw_tbl)
    (hq : q.1 + 1 ≤ aw_mc M ∧ q.2 + aw_N cl ≤ aw_ms M) (k : aw_W G M (pc + 3) ls (.ref (N + 3) :: st) (aw_nw S I L R N (cl + 3, 0)) (q.1 + 1, q.2 + aw_N cl) Q) : aw_W G M pc ls st (S, I, L, R, N) q Q := by
  intro p e s m args below meth c Z hC hZ H locs lsC hL hR hS
  obtain ⟨hx, hb, hml, hown, hts, hin, hFx⟩ := id hC
  have hKn := hFx.1.1 cl _ (aw_cls hc)
  refine W.newcK hx hb hown (hts _ hw1) (hts _ hw2) (hts _ hw3) rfl hd hq.1 hq.2 hKn.2.1 rfl fun H1 kC hkC e1 z1 o1 => ?_
  have hkk := k p e s m args below meth c Z hC hZ H1 locs lsC hL (hR.push z1 o1 ?_) (aw_S_push hS z1 o1)
  · have ha : g_ad G (N + 3) = H.size := by rw [aw_ado hFx (by omega), show N + 3 - 3 = N by omega]; exact hR.1.symm
    have hkk2 : W p (g_l G) e (aw_rm M) s m args below meth c H1 locs (q.1 + 1) (q.2 + aw_N cl) Z (F0 m (pc + 3) lsC (.ref (g_ad G (N + 3)) :: st.map (aw_cv (g_ad G)))) := hkk
    rw [ha] at hkk2
    exact hkk2
  · rw [aw_enO (h := aw_nw S I L R N (cl + 3, 0)) (cl := cl) (n := 0) (by show va_up S (N + 3) _ (N + 3) = _; simp [va_up])]
    have hsz : H.size = g_b G + N := hR.1
    rw [hsz] at e1
    refine ⟨_, aw_cls hc, (u_born (aw_ty cl) hts (aw_uws hc) hKn hkC e1 (aw_tyk hc)).to ?_⟩
    intro j hj
    have ht := aw_toks hc j hj
    unfold vp_V
    rw [List.getD_eq_getElem?_getD, List.getElem?_map, List.getElem?_range hj]
    show _ = aw_fv (g_ad G) (aw_nw S I L R N (cl + 3, 0)) (N + 3) (aw_ty cl j) j
    cases hty : aw_ty cl j <;> rw [hty] at ht <;> first | (simp [aw_fv, va_up, defaultValue, va_rf]; done) | cases ht
theorem aw_newI {n : Int32} {n2 : Nat} (hd : decode (aw_c M) pc = .ok (.newarray .int, 2)) (hw : Cond.arrayClass .int ∈ aw_tbl) (h0 : ¬ n < 0) (hn : n.toNatClampNeg = n2) (hb2 : n2 ≤ 100000)
    (hq : q.1 + 1 ≤ aw_mc M ∧ q.2 + n2 ≤ aw_ms M) (k : aw_W G M (pc + 2) ls (.ref (N + 3) :: st) (aw_nw S I L R N (0, n2)) (q.1 + 1, q.2 + n2) Q) : aw_W G M pc ls (.int n :: st) (S, I, L, R, N) q Q := by
  intro p e s m args below meth c Z hC hZ H locs lsC hL hR hS
  obtain ⟨hx, hb, hml, hown, hts, hin, hFx⟩ := id hC
  refine va_newaK (atype := .int) hx hb (hts _ hw) rfl hd rfl h0 hn (by show n2 * 4 ≤ 536870912; omega) hq.1 hq.2 rfl fun H1 cA e1 z1 o1 hAr hNm => ?_
  have hcA : cA = g_I G := by
    have r := (hFx.1.2 0 _ rfl).2
    exact Option.some.inj (hNm.symm.trans r)
  subst hcA
  have hkk := k p e s m args below meth c Z hC hZ H1 locs lsC hL (hR.push z1 o1 ?_) (aw_S_push hS z1 o1)
  · have ha : g_ad G (N + 3) = H.size := by rw [aw_ado hFx (by omega), show N + 3 - 3 = N by omega]; exact hR.1.symm
    have hkk2 : W p (g_l G) e (aw_rm M) s m args below meth c H1 locs (q.1 + 1) (q.2 + n2) Z (F0 m (pc + 2) lsC (.ref (g_ad G (N + 3)) :: st.map (aw_cv (g_ad G)))) := hkk
    rw [ha] at hkk2
    exact hkk2
  · rw [aw_enI (h := aw_nw S I L R N (0, n2)) (n := n2) (by show va_up S (N + 3) _ (N + 3) = _; simp [va_up])]
    have hsz : H.size = g_b G + N := hR.1
    rw [hsz] at e1
    show H1[_]? = some (vp_cell _ _)
    rw [e1, vp_cell_i]
    congr 2
    funext j
    simp [va_up]; rfl
theorem aw_newL {n : Int32} {n2 : Nat} (hd : decode (aw_c M) pc = .ok (.newarray .long, 2)) (hw : Cond.arrayClass .long ∈ aw_tbl) (h0 : ¬ n < 0) (hn : n.toNatClampNeg = n2) (hb2 : n2 ≤ 100000)
    (hq : q.1 + 1 ≤ aw_mc M ∧ q.2 + n2 ≤ aw_ms M) (k : aw_W G M (pc + 2) ls (.ref (N + 3) :: st) (aw_nw S I L R N (1, n2)) (q.1 + 1, q.2 + n2) Q) : aw_W G M pc ls (.int n :: st) (S, I, L, R, N) q Q := by
  intro p e s m args below meth c Z hC hZ H locs lsC hL hR hS
  obtain ⟨hx, hb, hml, hown, hts, hin, hFx⟩ := id hC
  refine va_newaK (atype := .long) hx hb (hts _ hw) rfl hd rfl h0 hn (by show n2 * 8 ≤ 536870912; omega) hq.1 hq.2 rfl fun H1 cA e1 z1 o1 hAr hNm => ?_
  have hcA : cA = g_L G := by
    have r := (hFx.1.2 1 _ rfl).2
    exact Option.some.inj (hNm.symm.trans r)
  subst hcA
  have hkk := k p e s m args below meth c Z hC hZ H1 locs lsC hL (hR.push z1 o1 ?_) (aw_S_push hS z1 o1)
  · have ha : g_ad G (N + 3) = H.size := by rw [aw_ado hFx (by omega), show N + 3 - 3 = N by omega]; exact hR.1.symm
    have hkk2 : W p (g_l G) e (aw_rm M) s m args below meth c H1 locs (q.1 + 1) (q.2 + n2) Z (F0 m (pc + 2) lsC (.ref (g_ad G (N + 3)) :: st.map (aw_cv (g_ad G)))) := hkk
    rw [ha] at hkk2
    exact hkk2
  · rw [aw_enL (h := aw_nw S I L R N (1, n2)) (n := n2) (by show va_up S (N + 3) _ (N + 3) = _; simp [va_up])]
    have hsz : H.size = g_b G + N := hR.1
    rw [hsz] at e1
    show H1[_]? = some (vp_cell _ _)
    rw [e1, vp_cell_l]
    congr 2
    funext j
    simp [va_up]; rfl
theorem aw_newR {n : Int32} {n2 idx : Nat} (hd : decode (aw_c M) pc = .ok (.anewarray idx, 3)) (hw : Cond.classLink (aw_nm (aw_own M)) idx RX8 ∈ aw_tbl) (h0 : ¬ n < 0) (hn : n.toNatClampNeg = n2) (hb2 : n2 ≤ 100000)
    (hq : q.1 + 1 ≤ aw_mc M ∧ q.2 + n2 ≤ aw_ms M) (k : aw_W G M (pc + 3) ls (.ref (N + 3) :: st) (aw_nw S I L R N (2, n2)) (q.1 + 1, q.2 + n2) Q) : aw_W G M pc ls (.int n :: st) (S, I, L, R, N) q Q := by
  intro p e s m args below meth c Z hC hZ H locs lsC hL hR hS
  obtain ⟨hx, hb, hml, hown, hts, hin, hFx⟩ := id hC
  subst hn
  refine W.anew hx hb hown (hts _ hw) (va_AO.use hFx.2.2.1) rfl hd rfl h0 (by omega) hq.1 hq.2 fun cA kA comp f1 f2 f3 f4 => ?_
  have hcA : cA = g_R G := by
    obtain ⟨_, _, _, _, _, r⟩ := (hFx.1.2 2 _ rfl).2
    exact Option.some.inj (f1.symm.trans r)
  subst hcA
  generalize hH1 : H.push ({ cls := g_R G, slots := Array.replicate n.toNatClampNeg .null, vm := .none } : Cell) = H1
  have z1 : H1.size = H.size + 1 := by rw [← hH1, Array.size_push]
  have e1 : H1[H.size]? = some (arrV (g_R G) n.toNatClampNeg (fun _ => .null)) := by rw [← hH1, Array.getElem?_push_size, ← arrV_new]
  have o1 : ∀ a : Nat, a < H.size → H1[a]? = H[a]? := fun a ha => by rw [← hH1, Array.getElem?_push, if_neg (Nat.ne_of_lt ha)]
  have hkk := k p e s m args below meth c Z hC hZ H1 locs lsC hL (hR.push z1 o1 ?_) (aw_S_push hS z1 o1)
  · have ha : g_ad G (N + 3) = H.size := by rw [aw_ado hFx (by omega), show N + 3 - 3 = N by omega]; exact hR.1.symm
    have hkk2 : W p (g_l G) e (aw_rm M) s m args below meth c H1 locs (q.1 + 1) (q.2 + n.toNatClampNeg) Z (F0 m (pc + 3) lsC (.ref (g_ad G (N + 3)) :: st.map (aw_cv (g_ad G)))) := hkk
    rw [ha] at hkk2
    exact hkk2
  · rw [aw_enR (h := aw_nw S I L R N (2, n.toNatClampNeg)) (n := n.toNatClampNeg) (by show va_up S (N + 3) _ (N + 3) = _; simp [va_up])]
    have hsz : H.size = g_b G + N := hR.1
    rw [hsz] at e1
    show H1[_]? = some (vp_cell _ _)
    rw [e1, vp_cell_q]
    congr 2
    funext j
    simp [va_up, va_rf]
end AWH3
end
section
theorem aw_nst_warm {w : Cond} (hw : w ∈ aw_nst) {s U : State} (hW : s.WarmedH U.vm) (hZ : va_Nw w s) : va_Nw w U := by
  have h2 := (List.mem_filter.mp hw).2
  cases w <;> first | exact va_Nw.warmM hW hZ | exact va_Nw.warmF hW hZ | (exfalso; revert h2; simp [aw_isN])
theorem aw_nst_on {w : Cond} (hw : w ∈ aw_nst) : w.onTables = true := by
  have h2 := (List.mem_filter.mp hw).2
  cases w <;> first | rfl | (exfalso; revert h2; simp [aw_isN])
theorem aw_Fx.at {G : aw_G} {s U : State} {H : Heap} {locs : List Loc} (h : aw_Fx G s) (hS : va_S (aw_A G) s.heap H locs) (hU : U.heap = H) (hW : s.WarmedH U.vm) : aw_Fx G U := by
  obtain ⟨h1, h2, h3, h4, h5, h6, h7, h8⟩ := h
  refine ⟨va_K.moved hW.alike h1, fun w hw => aw_nst_warm hw hW (h2 w hw), va_AO.moved hW.alike h3, fun o ho => ?_, ?_, ?_, h7, ?_⟩
  · rw [hU]; exact ((h4 o ho).moved hW.alike).kept (fun a h1 h2 => hS.2.1 a h1 h2)
  · rw [hU]; exact (h5.moved hW.alike).kept (fun a h1 h2 => hS.2.1 a h1 h2)
  · rw [hU]; exact (h6.moved hW.alike).kept (fun a h1 h2 => hS.2.1 a h1 h2)
  · rw [hU]; exact Nat.le_trans h8 hS.1
theorem aw_blind {G : aw_G} {av : List Value} {h : aw_H} : FrameBlind (va_Pc av (fun U => aw_Rep G h U.heap ∧ aw_Fx G U)) := by
  intro a U g mk hq
  obtain ⟨e1, hR, h1, h2, h3, h4, h5, h6, h7, h8⟩ := hq
  refine ⟨e1, hR, va_K.moved (u := U) (U := U.calling g mk a) (Vm.Alike.refl U.vm) h1, fun w hw => va_Nw.same (u := U) (U := U.calling g mk a) (aw_nst_on hw) rfl (h2 w hw), va_AO.moved (u := U) (U := U.calling g mk a) (Vm.Alike.refl U.vm) h3, fun o ho => ?_, ?_, ?_, h7, h8⟩
  · exact (h4 o ho).moved (U := U.calling g mk a) (Vm.Alike.refl U.vm)
  · exact h5.moved (U := U.calling g mk a) (Vm.Alike.refl U.vm)
  · exact h6.moved (U := U.calling g mk a) (Vm.Alike.refl U.vm)
/-- a method that can be called: its code stands in the tables -/
def aw_ok (M : aw_MR) : Prop := plainName (aw_y M).cls = true ∧ (aw_y M).cls = aw_nm (aw_own M) ∧ (aw_ini M = true → (aw_y M).name = "<init>") ∧ Cond.code (aw_y M) (aw_c M) (aw_nL M) (aw_ret M) ∈ aw_tbl ∧ Cond.initialized (aw_y M).cls ∈ aw_tbl ∧ ((aw_y M).cls ≠ "java/lang/invoke/MethodHandle" ∧ (aw_y M).cls ≠ "java/lang/invoke/VarHandle")
section AWC
variable {G : aw_G} {M : aw_MR} {pc : Nat} {ls st : List Value} {h : aw_H} {q : Nat × Nat} {Q : Option Value → aw_H → Prop}
theorem aw_sl_len (ad : Nat → Nat) (avs : List Value) : (lg_sl (avs.map (aw_cv ad))).length = (aw_sl avs).length := by
  induction avs with
  | nil => rfl
  | cons v vs ih =>
    simp only [lg_sl, aw_sl, List.map_cons, List.flatMap_cons, List.length_append] at ih ⊢
    rw [ih, aw_cv_cat]
    split <;> rfl
theorem aw_ent_L (ad : Nat → Nat) (avs : List Value) (n : Nat) (hn : (aw_sl avs).length ≤ n) : aw_L ad ((lg_sl (avs.map (aw_cv ad)) ++ List.replicate (n - (lg_sl (avs.map (aw_cv ad))).length) Slot.unset).toArray) n (aw_ent avs n) := by
  have h0 := lv_entry (avs.map (aw_cv ad)) (n := n) (by rw [aw_sl_len]; exact hn)
  refine ⟨h0.1, h0.2.1, ?_⟩
  intro i v hi hv
  have hi2 : (aw_sl avs)[i]? = some v := by
    unfold aw_ent at hi
    by_cases hl : i < (aw_sl avs).length
    · rw [List.getElem?_append_left hl] at hi; exact hi
    · rw [List.getElem?_append_right (by omega)] at hi
      exact absurd (List.eq_of_mem_replicate (List.mem_of_getElem? hi)) hv
  have key : ∀ (avs : List Value) (i : Nat), (aw_sl avs)[i]? = some v → (lg_sl (avs.map (aw_cv ad)))[i]? = some (.val (aw_cv ad v)) := by
    intro avs
    induction avs with
    | nil => intro i hi; cases hi
    | cons w ws ih =>
      intro i hi
      simp only [lg_sl, aw_sl, List.map_cons, List.flatMap_cons] at ih hi ⊢
      rw [aw_cv_cat]
      by_cases hc : w.category = 2
      · rw [if_pos hc] at hi ⊢
        match i, hi with
        | 0, hi => cases hi; rfl
        | 1, hi => cases hi; exact absurd rfl hv
        | i + 2, hi => exact ih i hi
      · rw [if_neg hc] at hi ⊢
        match i, hi with
        | 0, hi => cases hi; rfl
        | i + 1, hi => exact ih i hi
  have h1 := key avs i hi2
  rw [List.getElem?_toArray, List.getElem?_append_left (List.getElem?_eq_some_iff.mp h1).1]
  exact h1
/-- a contract out of a walk -/
theorem aw_Met.of {avs : List Value} (hok : aw_ok M) (hlen : (aw_sl avs).length ≤ aw_nL M) (k : aw_W G M 0 (aw_ent avs (aw_nL M)) [] h (0, 0) Q) : aw_Met G M avs h Q := by
  refine Met.ofW (cc := aw_c M) (maxL := aw_nL M) (ret := aw_ret M) hok.1 rfl ?_
  intro p e s m args below meth c s₁ B hml hv
  obtain ⟨rfl, hR, hFx⟩ := hv
  have hts := atoms_spec (ws := aw_ws M) B.pre
  have hown : s.vm.findClass (aw_y M).cls = some m.cls := findClass_of_methodNamed B.named
  have hlocks := B.notSynchronized
  have hnm := (name_of_methodNamed B.named B.method).1
  rw [lg_entry_eq]
  refine k p e s m _ below meth c _ ⟨B.exec, B.bytes, hml, by rw [← hok.2.1]; exact hown, fun w hw => hts w (List.mem_cons_of_mem _ hw), fun hi => hnm.trans (hok.2.2.1 hi), hFx⟩ ?_ s.heap [] _ (aw_ent_L (g_ad G) avs (aw_nL M) hlen) hR va_S.rf
  intro pc2 ls2 v h2 H2 locs2 q2 hQ hR2 hS2 hq2 hrt
  refine W.widen hq2.1 hq2.2 ?_
  have hr := B.returns
  rcases hrt with ⟨rfl, hd, hre⟩ | ⟨x, ty, rfl, hd, hre, hn⟩ | ⟨x, rfl, hd, hre⟩ | ⟨a, n, rfl, hd, hre⟩
  · exact W.vret B.exec B.bytes (hr.trans hre) (fun t ht hW => ⟨none, h2, rfl, hQ, by rw [ht]; exact hR2, hS2.F ht⟩) (fun z hz => hS2.2.2 z hz) hd
  · exact W.zret B.exec B.bytes (hr.trans hre) hn (fun t ht hW => ⟨some (.int x), h2, rfl, hQ, by rw [ht]; exact hR2, hS2.F ht⟩) (fun z hz => hS2.2.2 z hz) hd
  · exact W.lret B.exec B.bytes (hr.trans hre) (fun t ht hW => ⟨some (.long x), h2, rfl, hQ, by rw [ht]; exact hR2, hS2.F ht⟩) (fun z hz => hS2.2.2 z hz) hd
  · exact W.aret B.exec B.bytes (hr.trans hre) (Or.inl ⟨_, rfl⟩) (Or.inr ⟨_, rfl⟩) (fun t ht hW => ⟨some (.ref a), h2, rfl, hQ, by rw [ht]; exact hR2, hS2.F ht⟩) (fun z hz => hS2.2.2 z hz) hd
theorem aw_Met.mono {avs : List Value} {Q2 : Option Value → aw_H → Prop} (hq : ∀ v h2, Q2 v h2 → Q v h2) (k : aw_Met G M avs h Q2) : aw_Met G M avs h Q := by
  intro p e ha hc hk s m args below hf hpre hP hcl
  obtain ⟨t, o, h1, h2, h3, ⟨v, hh, g1, g2, g3, g4⟩, h4⟩ := k p e ha hc hk s m args below hf hpre hP hcl
  exact ⟨t, o, h1, h2, h3, ⟨v, hh, g1, hq _ _ g2, g3, g4⟩, h4⟩
/-- behind a call -/
theorem aw_run {p : Program} {e : Env} {s : State} {m : MethodId} {args a : Array Value} {below : List Frame} {meth : Method} {c : Code} {Z : State → Prop} {H : Heap} {locs : List Loc} {lsC : Array Slot} {st0 rest : List Value} {mc ms : Nat} {Q2 : Option Value → aw_H → Prop}
    (hC : aw_Cx G M p s m args meth c)
    (hZ : ∀ (pc2 : Nat) (ls2 : Array Slot) (v : Option Value) (h2 : aw_H) (H2 : Heap) (locs2 : List Loc) (q2 : Nat × Nat), Q v h2 → aw_Rep G h2 H2 → va_S (aw_A G) s.heap H2 locs2 → (q2.1 ≤ aw_mc M ∧ q2.2 ≤ aw_ms M) → aw_Rt M pc2 v → W p (g_l G) e (aw_rm M) s m args below meth c H2 locs2 q2.1 q2.2 Z (F0 m pc2 ls2 (v.toList.map (aw_cv (g_ad G)))))
    (hL : aw_L (g_ad G) lsC (aw_nL M) ls) (hS : va_S (aw_A G) s.heap H locs)
    (hr : va_Run p (g_l G) e (aw_rm M) s m args below meth c H locs q.1 q.2 mc ms (F0 m pc lsC st0) (rest.map (aw_cv (g_ad G))) (aw_Qc G Q2 a) (aw_A G))
    (k : ∀ v h2, Q2 v h2 → aw_W G M (pc + 3) ls (v.toList ++ rest) h2 (q.1 + mc, q.2 + ms) Q) : W p (g_l G) e (aw_rm M) s m args below meth c H locs q.1 q.2 Z (F0 m pc lsC st0) := by
  intro T hT X
  obtain ⟨v, st₀, t, T', LL, h0, X', hLL, e1, e2, ⟨v2, h2, hv, hQ, hR2, hz, hkp⟩, stp⟩ := hr T hT X
  injection hv with hv
  subst hv
  rw [h0] at hz hkp
  have hS' : va_S (aw_A G) s.heap T'.heap (locs ++ LL) := ⟨Nat.le_trans hS.1 (by rw [e1]; exact hz), fun a h1 h2 => by rw [e1, hkp a (Nat.lt_of_lt_of_le h1 hS.1) h2]; exact hS.2.1 a h1 h2, fun z hz => by
    rcases List.mem_append.mp hz with h | h
    · exact hS.2.2 z h
    · exact hLL z h⟩
  have hkk := k v2 h2 hQ p e s m args below meth c Z hC hZ T'.heap (locs ++ LL) lsC hL (by rw [e1]; exact hR2) hS'
  obtain ⟨t2, a1, b1⟩ := hkk T' rfl X'
  refine ⟨t2, stp t2 ?_, b1⟩
  have hst : (v2.map (aw_cv (g_ad G))).toList ++ rest.map (aw_cv (g_ad G)) = (v2.toList ++ rest).map (aw_cv (g_ad G)) := by
    cases v2 <;> simp
  show Steps p.tables e below (T'.setTop (F0 m (pc + 3) lsC ((v2.map (aw_cv (g_ad G))).toList ++ rest.map (aw_cv (g_ad G))))) t2
  rw [hst]
  exact a1
theorem aw_cat_sum (ad : Nat → Nat) (l : List Value) : ((l.map (aw_cv ad)).map fun v => v.category).sum = (l.map fun v => v.category).sum := by
  rw [List.map_map]
  congr 1
  apply List.map_congr_left
  intro v _
  exact aw_cv_cat ad v
/-- the room of a callee fits the caller's -/
def aw_fit (M M2 : aw_MR) (q : Nat × Nat) : Prop := (aw_fr M2 + 1 ≤ aw_fr M ∧ 8 + (aw_nL M2 + 11) + aw_lo M2 ≤ aw_lo M) ∧ (q.1 + aw_mc M2 ≤ aw_mc M ∧ q.2 + aw_ms M2 ≤ aw_ms M)
theorem aw_preS {avs : List Value} {s : State} {H : Heap} {locs : List Loc} (hFx : aw_Fx G s) (hR : aw_Rep G h H) (hS : va_S (aw_A G) s.heap H locs) : PreS s H (va_Pc (avs.map (aw_cv (g_ad G))) (fun U => aw_Rep G h U.heap ∧ aw_Fx G U)) (avs.map (aw_cv (g_ad G))) :=
  ⟨aw_blind, fun U hU hW => ⟨rfl, by rw [hU]; exact hR, hFx.at hS hU hW⟩⟩
/-- invokestatic -/
def aw_KS (own idx : Nat) (M2 : aw_MR) (n : Nat) : Prop := aw_ok M2 ∧ Cond.methodLink (aw_nm own) idx (aw_y M2) ∈ aw_tbl ∧ Cond.static (aw_y M2) ∈ aw_tbl ∧ (parseMethodDescriptor (aw_y M2).desc).map (fun d => d.parameters.length) = some n
theorem aw_invS {M2 : aw_MR} {As rest : List Value} {idx n : Nat} {Q2 : Option Value → aw_H → Prop} (hd : decode (aw_c M) pc = .ok (.invokestatic idx, 3)) (hk : aw_KS (aw_own M) idx M2 n) (hn : As.length = n) (hst : st = As.reverse ++ rest) (hr : (rest.map fun v => v.category).sum ≤ 8) (hf : aw_fit M M2 q)
    (hM : aw_Met G M2 As h Q2) (k : ∀ v h2, Q2 v h2 → aw_W G M (pc + 3) ls (v.toList ++ rest) h2 (q.1 + aw_mc M2, q.2 + aw_ms M2) Q) : aw_W G M pc ls st h q Q := by
  intro p e s m args below meth c Z hC hZ H locs lsC hL hR hS
  obtain ⟨hx, hb, hml, hown, hts, hin, hFx⟩ := id hC
  obtain ⟨hok, hw1, hw2, hnp⟩ := hk
  refine aw_run hC hZ hL hS (va_runS (As := As.map (aw_cv (g_ad G))) ⟨hx, hb, hml, hown, hts⟩ hM ⟨callB_of n hts (aw_GW hok.2.2.2.1) rfl rfl rfl (hts _ hok.2.2.2.2.1) (hts _ hw1) ⟨hok.2.2.2.2.2.1, hok.2.2.2.2.2.2, hnp⟩ hf.1, hts _ hw2⟩ (aw_preS hFx hR hS) rfl (by rw [List.length_map]; exact hn) hL.1 (by show st.map _ = _; rw [hst, List.map_append, List.map_reverse]) (by show 2 * 0 + _ ≤ 8; rw [aw_cat_sum]; omega) hd hf.2) k
/-- invokevirtual of a method of the receiver's own kind -/
def aw_KV (own idx : Nat) (M2 : aw_MR) (n : Nat) : Prop := aw_ok M2 ∧ Cond.methodLink (aw_nm own) idx (aw_y M2) ∈ aw_tbl ∧ Cond.instanceMethod (aw_y M2) ∈ aw_tbl ∧ Cond.selects (aw_y M2).cls (aw_y M2) (aw_y M2) ∈ aw_tbl ∧ aw_own M2 < 12 ∧ (parseMethodDescriptor (aw_y M2).desc).map (fun d => d.parameters.length) = some n
theorem aw_invV {M2 : aw_MR} {b n2 : Nat} {As rest : List Value} {idx n : Nat} {Q2 : Option Value → aw_H → Prop} (hd : decode (aw_c M) pc = .ok (.invokevirtual idx, 3)) (hk : aw_KV (aw_own M) idx M2 n) (hn : As.length = n) (hst : st = As.reverse ++ .ref b :: rest) (hs : h.1 b = (aw_own M2 + 3, n2)) (hb3 : 3 ≤ b ∧ b < h.2.2.2.2 + 3) (hr : (rest.map fun v => v.category).sum ≤ 8) (hf : aw_fit M M2 q)
    (hM : aw_Met G M2 (.ref b :: As) h Q2) (k : ∀ v h2, Q2 v h2 → aw_W G M (pc + 3) ls (v.toList ++ rest) h2 (q.1 + aw_mc M2, q.2 + aw_ms M2) Q) : aw_W G M pc ls st h q Q := by
  intro p e s m args below meth c Z hC hZ H locs lsC hL hR hS
  obtain ⟨hx, hb, hml, hown, hts, hin, hFx⟩ := id hC
  obtain ⟨hok, hw1, hw2, hw3, hcl, hnp⟩ := hk
  have hpre := aw_preS (avs := .ref b :: As) hFx hR hS
  have hrec : ∃ cell : Cell, H[g_ad G b]? = some cell ∧ cell.vm.isStatics = false ∧ s.vm.findClass (aw_y M2).cls = some cell.cls := by
    have h1 := va_recv hFx.1 hR.2.1 (aw_cls hcl) (q0 := b - 3) ((aw_wo hb3.1 hb3.2).trans (by rw [aw_enO hs]))
    rw [aw_ado hFx hb3.1, hok.2.1]
    exact h1
  refine aw_run hC hZ hL hS (va_runV (C := (aw_y M2).cls) (b := g_ad G b) (As := As.map (aw_cv (g_ad G))) ⟨hx, hb, hml, hown, hts⟩ hM ⟨callB_of n hts (aw_GW hok.2.2.2.1) rfl rfl rfl (hts _ hok.2.2.2.2.1) (hts _ hw1) ⟨hok.2.2.2.2.2.1, hok.2.2.2.2.2.2, hnp⟩ hf.1, hts _ hw2, hts _ hw3⟩ ⟨hpre.1, hrec, hpre.2⟩ rfl (by rw [List.length_map]; exact hn) hL.1 (by show st.map _ = _; rw [hst, List.map_append, List.map_reverse]; rfl) (by show 2 * 0 + _ ≤ 8; rw [aw_cat_sum]; omega) hd hf.2) k
/-- invokespecial of a constructor -/
def aw_KI (own idx : Nat) (M2 : aw_MR) (n : Nat) : Prop := aw_ok M2 ∧ aw_ret M2 = none ∧ (aw_y M2).name = "<init>" ∧ (Cond.methodLink (aw_nm own) idx (aw_y M2) ∈ aw_tbl ∨ Cond.methodLinkNest (aw_nm own) idx (aw_y M2) RX10 ∈ aw_nst) ∧ Cond.instanceMethod (aw_y M2) ∈ aw_tbl ∧ (parseMethodDescriptor (aw_y M2).desc).map (fun d => d.parameters.length) = some n
theorem aw_invI {M2 : aw_MR} {b : Nat} {As rest : List Value} {idx n : Nat} {Q2 : Option Value → aw_H → Prop} (hd : decode (aw_c M) pc = .ok (.invokespecial idx, 3)) (hk : aw_KI (aw_own M) idx M2 n) (hn : As.length = n) (hst : st = As.reverse ++ .ref b :: rest) (hr : (rest.map fun v => v.category).sum ≤ 8) (hf : aw_fit M M2 q)
    (hM : aw_Met G M2 (.ref b :: As) h Q2) (k : ∀ v h2, Q2 v h2 → aw_W G M (pc + 3) ls (v.toList ++ rest) h2 (q.1 + aw_mc M2, q.2 + aw_ms M2) Q) : aw_W G M pc ls st h q Q := by
  intro p e s m args below meth c Z hC hZ H locs lsC hL hR hS
  obtain ⟨hx, hb, hml, hown, hts, hin, hFx⟩ := id hC
  obtain ⟨hok, hret, hnm, hw1, hw2, hnp⟩ := hk
  have hws : aw_ws M2 = Cond.code (aw_y M2) (aw_c M2) (aw_nL M2) none :: aw_tbl := by
    show Cond.code (aw_y M2) (aw_c M2) (aw_nL M2) (aw_ret M2) :: aw_tbl = _
    rw [hret]
  rcases hw1 with hw1 | hw1
  · refine aw_run hC hZ hL hS (va_runI (b := g_ad G b) (As := As.map (aw_cv (g_ad G))) ⟨hx, hb, hml, hown, hts⟩ hM (cwI n hts (aw_GW hok.2.2.2.1) hws rfl rfl (hts _ hok.2.2.2.2.1) (hts _ hw1) (hts _ hw2) hnm ⟨hok.2.2.2.2.2.1, hok.2.2.2.2.2.2, hnp⟩ hf.1) (aw_preS (avs := .ref b :: As) hFx hR hS) rfl (by rw [List.length_map]; exact hn) hL.1 (by show st.map _ = _; rw [hst, List.map_append, List.map_reverse]; rfl) (by show 2 * 0 + _ ≤ 8; rw [aw_cat_sum]; omega) hd hf.2) k
  · refine aw_run hC hZ hL hS (va_runIN (b := g_ad G b) (As := As.map (aw_cv (g_ad G))) ⟨hx, hb, hml, hown, hts⟩ hM ⟨va_cnB n hts (aw_GW hok.2.2.2.1) hws rfl rfl (hFx.2.1 _ hw1) (hts _ hok.2.2.2.2.1) ⟨hok.2.2.2.2.2.1, hok.2.2.2.2.2.2, hnp⟩ hf.1, hnm, hts _ hw2⟩ (aw_preS (avs := .ref b :: As) hFx hR hS) rfl (by rw [List.length_map]; exact hn) hL.1 (by show st.map _ = _; rw [hst, List.map_append, List.map_reverse]; rfl) (by show 2 * 0 + _ ≤ 8; rw [aw_cat_sum]; omega) hd hf.2) k
theorem aw_obj {b idx : Nat} (hd : decode (aw_c M) pc = .ok (.invokespecial idx, 3)) (hw1 : Cond.methodLink (aw_nm (aw_own M)) idx Lib.objectInit ∈ aw_tbl) (hw2 : Cond.instanceMethod Lib.objectInit ∈ aw_tbl) (hw3 : Cond.code Lib.objectInit ⟨#[0xb1]⟩ 1 none ∈ aw_tbl) (hf : 1 ≤ aw_fr M ∧ (st.map fun v => v.category).sum + 12 ≤ aw_lo M)
    (k : aw_W G M (pc + 3) ls st h q Q) : aw_W G M pc ls (.ref b :: st) h q Q := by
  intro p e s m args below meth c Z hC hZ H locs lsC hL hR hS
  have hk := k p e s m args below meth c Z hC hZ H locs lsC hL hR hS
  obtain ⟨hx, hb, hml, hown, hts, hin, hFx⟩ := id hC
  exact W.objInit hx hb hown (hts _ hw1) (hts _ hw2) (hts _ hw3) rfl (hL.1.trans hml.symm) (a := g_ad G b) (rest := st.map (aw_cv (g_ad G))) rfl hd hf.1 (by show 2 * 0 + _ + 12 ≤ aw_lo M; rw [aw_cat_sum]; omega) hk
theorem aw_getWAY {idx : Nat} (hd : decode (aw_c M) pc = .ok (.getstatic idx, 3)) (hw : Cond.fieldLinkNest (aw_nm (aw_own M)) idx RX9 "WAY" "[I" RX10 ∈ aw_nst) (k : aw_W G M (pc + 3) ls (.ref 1 :: st) h q Q) : aw_W G M pc ls st h q Q := by
  intro p e s m args below meth c Z hC hZ H locs lsC hL hR hS
  have hk := k p e s m args below meth c Z hC hZ H locs lsC hL hR hS
  obtain ⟨hx, hb, hml, hown, hts, hin, hFx⟩ := id hC
  exact va_getsN hx hb hFx.2.2.2.2.1 hS hown (va_Nw.use rfl (hFx.2.1 _ hw)) (fun x z => z) hd hk
theorem aw_getCAR {idx : Nat} (hd : decode (aw_c M) pc = .ok (.getstatic idx, 3)) (hw : Cond.fieldLinkNest (aw_nm (aw_own M)) idx RX9 "CARTER" "[I" RX10 ∈ aw_nst) (k : aw_W G M (pc + 3) ls (.ref 2 :: st) h q Q) : aw_W G M pc ls st h q Q := by
  intro p e s m args below meth c Z hC hZ H locs lsC hL hR hS
  have hk := k p e s m args below meth c Z hC hZ H locs lsC hL hR hS
  obtain ⟨hx, hb, hml, hown, hts, hin, hFx⟩ := id hC
  exact va_getsN hx hb hFx.2.2.2.2.2.1 hS hown (va_Nw.use rfl (hFx.2.1 _ hw)) (fun x z => z) hd hk
end AWC
end
section
-- words by their places
theorem aw_inst {c : Nat} (hc : c < 12) : Cond.instantiable (aw_nm c) (aw_N c) ∈ aw_tbl := by
  match c, hc with
  | 0, _ => exact aw_at 129 (by decide +kernel) rfl
  | 1, _ => exact aw_at 458 (by decide +kernel) rfl
  | 2, _ => exact aw_at 153 (by decide +kernel) rfl
  | 3, _ => exact aw_at 408 (by decide +kernel) rfl
  | 4, _ => exact aw_at 257 (by decide +kernel) rfl
  | 5, _ => exact aw_at 375 (by decide +kernel) rfl
  | 6, _ => exact aw_at 251 (by decide +kernel) rfl
  | 7, _ => exact aw_at 151 (by decide +kernel) rfl
  | 8, _ => exact aw_at 490 (by decide +kernel) rfl
  | 9, _ => exact aw_at 90 (by decide +kernel) rfl
  | 10, _ => exact aw_at 82 (by decide +kernel) rfl
  | 11, _ => exact aw_at 925 (by decide +kernel) rfl
  | c + 12, h => omega
theorem aw_init {c : Nat} (hc : c < 15) : Cond.initialized (aw_nm c) ∈ aw_tbl := by
  match c, hc with
  | 0, _ => exact aw_at 69 (by decide +kernel) rfl
  | 1, _ => exact aw_at 76 (by decide +kernel) rfl
  | 2, _ => exact aw_at 71 (by decide +kernel) rfl
  | 3, _ => exact aw_at 75 (by decide +kernel) rfl
  | 4, _ => exact aw_at 73 (by decide +kernel) rfl
  | 5, _ => exact aw_at 74 (by decide +kernel) rfl
  | 6, _ => exact aw_at 72 (by decide +kernel) rfl
  | 7, _ => exact aw_at 70 (by decide +kernel) rfl
  | 8, _ => exact aw_at 77 (by decide +kernel) rfl
  | 9, _ => exact aw_at 67 (by decide +kernel) rfl
  | 10, _ => exact aw_at 66 (by decide +kernel) rfl
  | 11, _ => exact aw_at 78 (by decide +kernel) rfl
  | 12, _ => exact aw_at 65 (by decide +kernel) rfl
  | 13, _ => exact aw_at 68 (by decide +kernel) rfl
  | 14, _ => exact aw_at 79 (by decide +kernel) rfl
  | c + 15, h => omega
theorem aw_arrI : Cond.arrayClass .int ∈ aw_tbl := aw_at 125 (by decide +kernel) rfl
theorem aw_arrL : Cond.arrayClass .long ∈ aw_tbl := aw_at 487 (by decide +kernel) rfl
end
section
/-- the law as a method of the light layer -/
abbrev mL_law : aw_MR := (yL_law, cL_law, 4, some .boolean, 12, 12, 478, 600000, 7302250, false)
def aw_way : Nat → Int32 := fun j => match j with
  | 0 => 0 | 1 => 1 | 2 => 2 | 3 => 4 | _ => 6
def aw_car : Nat → Int32 := fun j => match j with
  | 0 => 0 | 1 => 0 | 2 => 5 | 3 => 3 | 4 => 3 | 5 => 3 | _ => 6
/-- the heap with which the law begins: the script, the two static rows, no object -/
def aw_S0 (L : Nat) : Nat → Nat × Nat := fun o => match o with
  | 0 => (0, L) | 1 => (0, 5) | 2 => (0, 7) | _ => (0, 0)
def aw_I0 (xs : Nat → Int32) : Nat → Nat → Int32 := fun o => match o with
  | 0 => xs | 1 => aw_way | 2 => aw_car | _ => fun _ => 0
def aw_rn0 (L : Nat) : Nat → Nat := fun o => (aw_S0 L o).2
set_option maxHeartbeats 4000000 in
theorem aw_start {p : Program} {e : Env} {s : State} {m : MethodId} {below : List Frame} {meth : Method} {c : Code} (l : Launch) {b L : Nat} {xs : Nat → Int32} (hL : L ≤ 3072) (C0 : lw_At p s m meth c b L xs)
    (k : ∀ G : aw_G, aw_W G mL_law 0 [.ref 0, aw_x, aw_x, aw_x] [] (aw_S0 L, aw_I0 xs, fun _ _ => 0, fun _ _ => none, 0) (0, 0) (fun v _ => v = some (.int 1))) :
    W p l e room_1 s m #[Value.ref b] below meth c s.heap [] 0 0 (lw_Z below #[Value.ref b] s) (entryFrame m ([Value.ref b] : List Value).toArray 4) := by
  obtain ⟨hx, hb, hr, hml, hown, hts0, hX, hbl, hlocks, hgv⟩ := id C0
  have hts : ∀ w ∈ aw_tbl, w.before #[Value.ref b] s = true := fun w hw => hts0 w (List.mem_filter.mp hw).1
  have hfl := flat_of_before _ hgv
  have hA : ∀ a : Nat, a < s.heap.size → ¬ (fun z : Nat => s.heap.size ≤ z) a := fun a ha => Nat.not_le.mpr ha
  have hKn : ∀ k : Nat, ∃ x : ClassId × (Nat → Nat), k < 12 → u_Kn s (aw_nm k) (aw_T k) (aw_N k) x.1 x.2 := by
    intro k
    by_cases hk : k < 12
    · obtain ⟨cC, iS, h⟩ := u_known (C := aw_nm k) (T := aw_T k) (N := aw_N k) (n := aw_N k) hts (aw_uws hk) (hts _ (aw_inst hk))
      exact ⟨(cC, iS), fun _ => h⟩
    · exact ⟨(0, fun _ => 0), fun h => absurd h hk⟩
  obtain ⟨cI, kI, compI, i1, i2, i3⟩ := Cond.arrayClass_spec (hts _ aw_arrI)
  obtain ⟨cJ, kJ, compJ, j1, j2, j3⟩ := Cond.arrayClass_spec (hts _ aw_arrL)
  have hAO : (Cond.arrayOver (.object RX8)).before #[Value.ref b] s = true := hts0 _ (by decide +kernel)
  obtain ⟨compR, cR, kR, r1, -, r2, r3, r4⟩ := Cond.arrayOver_spec hAO
  obtain ⟨t1, v1, T1⟩ := va_Tof (tm := .static RX9 "WAY" "[I") (ty := .int) (N := 5) (f := fun j => .int (aw_way j)) (A := fun z : Nat => s.heap.size ≤ z) (by decide) (hfl _ (by decide +kernel)) (va_eqt (hfl _ (by decide +kernel))) (fun j hj => by
    match j, hj with
    | 0, _ => exact va_eqt (hfl _ (by decide +kernel))
    | 1, _ => exact va_eqt (hfl _ (by decide +kernel))
    | 2, _ => exact va_eqt (hfl _ (by decide +kernel))
    | 3, _ => exact va_eqt (hfl _ (by decide +kernel))
    | 4, _ => exact va_eqt (hfl _ (by decide +kernel))
    | j + 5, h => omega) hA
  obtain ⟨t2, v2, T2⟩ := va_Tof (tm := .static RX9 "CARTER" "[I") (ty := .int) (N := 7) (f := fun j => .int (aw_car j)) (A := fun z : Nat => s.heap.size ≤ z) (by decide) (hfl _ (by decide +kernel)) (va_eqt (hfl _ (by decide +kernel))) (fun j hj => by
    match j, hj with
    | 0, _ => exact va_eqt (hfl _ (by decide +kernel))
    | 1, _ => exact va_eqt (hfl _ (by decide +kernel))
    | 2, _ => exact va_eqt (hfl _ (by decide +kernel))
    | 3, _ => exact va_eqt (hfl _ (by decide +kernel))
    | 4, _ => exact va_eqt (hfl _ (by decide +kernel))
    | 5, _ => exact va_eqt (hfl _ (by decide +kernel))
    | 6, _ => exact va_eqt (hfl _ (by decide +kernel))
    | j + 7, h => omega) hA
  have Z1 := va_Zof (A := fun z : Nat => s.heap.size ≤ z) (hts0 (.laysStatic RX9 "WAY" "[I") (by decide +kernel)) (hts _ (aw_init (c := 9) (by decide))) v1 hA
  have Z2 := va_Zof (A := fun z : Nat => s.heap.size ≤ z) (hts0 (.laysStatic RX9 "CARTER" "[I") (by decide +kernel)) (hts _ (aw_init (c := 9) (by decide))) v2 hA
  let ad : Nat → Nat := fun i => match i with
    | 0 => b | 1 => t1 | 2 => t2 | i + 3 => s.heap.size + i
  let G : aw_G := (l, (fun k => (Classical.choose (hKn k)).1, fun k => (Classical.choose (hKn k)).2), (cI, cJ, cR), ad, s.heap.size, aw_rn0 L, aw_I0 xs)
  have hFx : aw_Fx G s := by
    refine ⟨⟨fun k q hq => ?_, fun k q hq => ?_⟩, fun w hw => va_Nw.of (aw_nst_on hw) (hts0 w (List.mem_filter.mp hw).1), va_AO.of hAO, fun o ho => ?_, Z1, Z2, fun i => rfl, Nat.le_refl _⟩
    · have hk : k < 12 := (List.getElem?_eq_some_iff.mp hq).1
      have hq2 : q = (aw_nm k, aw_T k, aw_N k) := Option.some.inj (hq.symm.trans (aw_cls hk))
      subst hq2
      exact Classical.choose_spec (hKn k) hk
    · match k, hq with
      | 0, hq => cases hq; exact ⟨fun n z => ⟨fun k h => (by cases h), kI, i2, compI, i3⟩, i1⟩
      | 1, hq => cases hq; exact ⟨fun n z => ⟨fun k h => (by cases h), kJ, j2, compJ, j3⟩, j1⟩
      | 2, hq => cases hq; exact ⟨fun n z => ⟨fun k h => (by cases h), kR, r2, compR, r3⟩, kR, compR, r2, r3, r1, r4⟩
      | k + 3, hq => cases hq
    · match o, ho with
      | 0, _ =>
        obtain ⟨scr, s1, s2, s3, s4, s5⟩ := hX
        exact ⟨scr, s1, s2, s3, Nat.le_of_eq s4.symm, by rw [s4]; rfl, s5, hA b hbl⟩
      | 1, _ => exact T1
      | 2, _ => exact T2
      | o + 3, h => omega
  have hRep : aw_Rep G (aw_S0 L, aw_I0 xs, fun _ _ => 0, fun _ _ => none, 0) s.heap := by
    refine ⟨rfl, fun k q hq => by simp [aw_wl] at hq, fun o ho => ?_⟩
    match o, ho with
    | 0, _ => exact ⟨rfl, rfl⟩
    | 1, _ => exact ⟨rfl, rfl⟩
    | 2, _ => exact ⟨rfl, rfl⟩
    | o + 3, h => omega
  rw [lg_entry_eq]
  refine k G p e s m #[Value.ref b] below meth c (lw_Z below #[Value.ref b] s) ⟨hx, hb, hml, hown, hts, (fun h => by cases h), hFx⟩ ?_ s.heap [] _ (aw_ent_L (g_ad G) [.ref 0] 4 (by decide)) hRep va_S.rf
  intro pc2 ls2 v h2 H2 locs2 q2 hQ hR2 hS2 hq2 hrt
  subst hQ
  refine va_forget (fun z hz => hS2.2.2 z hz) ?_
  refine W.widen (k := 600000) (n := 7302250) hq2.1 hq2.2 ?_
  rcases hrt with ⟨h, -, -⟩ | ⟨x, ty, h, hd, -, -⟩ | ⟨x, h, -, -⟩ | ⟨a, n, h, -, -⟩
  · cases h
  · cases h; exact lw_ret hx hb hr hlocks hd
  · cases h
  · cases h
end
