section
-- ===== PART A: goes FIRST, ahead of the names: the tables' words, and 'selects' of the private methods out of them =====
/-- a private method of a class that the tables say can be made, by its rows of tables_1 -/
def lw_okq (q : MethodName × Nat) : Prop := (q.1.cls ≠ "java/lang/invoke/MethodHandle" ∧ q.1.cls ≠ "java/lang/invoke/VarHandle") ∧ Cond.instantiable q.1.cls q.2 ∈ tables_1 ∧ Cond.privateMethod q.1 ∈ tables_1 ∧ Cond.instanceMethod q.1 ∈ tables_1
theorem lw_p0 : lw_okq (⟨"LostQuestions", "found", "(I)I"⟩, 12) := ⟨⟨by decide +kernel, by decide +kernel⟩, List.mem_of_getElem? (i := 14) (by decide +kernel), List.mem_of_getElem? (i := 245) (by decide +kernel), List.mem_of_getElem? (i := 246) (by decide +kernel)⟩
theorem lw_p1 : lw_okq (⟨"LostQuestions$Library", "readQuestion", "(LLostQuestions$Row;I)I"⟩, 9) := ⟨⟨by decide +kernel, by decide +kernel⟩, List.mem_of_getElem? (i := 91) (by decide +kernel), List.mem_of_getElem? (i := 315) (by decide +kernel), List.mem_of_getElem? (i := 316) (by decide +kernel)⟩
theorem lw_p2 : lw_okq (⟨"LostQuestions$Library", "readCard", "(LLostQuestions$Row;I)I"⟩, 9) := ⟨⟨by decide +kernel, by decide +kernel⟩, List.mem_of_getElem? (i := 91) (by decide +kernel), List.mem_of_getElem? (i := 323) (by decide +kernel), List.mem_of_getElem? (i := 324) (by decide +kernel)⟩
theorem lw_p3 : lw_okq (⟨"LostQuestions$Library", "yesMeaning", "(I)I"⟩, 9) := ⟨⟨by decide +kernel, by decide +kernel⟩, List.mem_of_getElem? (i := 91) (by decide +kernel), List.mem_of_getElem? (i := 382) (by decide +kernel), List.mem_of_getElem? (i := 383) (by decide +kernel)⟩
theorem lw_p4 : lw_okq (⟨"LostQuestions$Library", "cardsOn", "(I)I"⟩, 9) := ⟨⟨by decide +kernel, by decide +kernel⟩, List.mem_of_getElem? (i := 91) (by decide +kernel), List.mem_of_getElem? (i := 387) (by decide +kernel), List.mem_of_getElem? (i := 388) (by decide +kernel)⟩
theorem lw_p5 : lw_okq (⟨"LostQuestions$Library", "placesSaying", "(I)I"⟩, 9) := ⟨⟨by decide +kernel, by decide +kernel⟩, List.mem_of_getElem? (i := 91) (by decide +kernel), List.mem_of_getElem? (i := 399) (by decide +kernel), List.mem_of_getElem? (i := 400) (by decide +kernel)⟩
theorem lw_p6 : lw_okq (⟨"LostQuestions$Matchings", "countAhead", "(LLostQuestions$Library;)V"⟩, 8) := ⟨⟨by decide +kernel, by decide +kernel⟩, List.mem_of_getElem? (i := 26) (by decide +kernel), List.mem_of_getElem? (i := 490) (by decide +kernel), List.mem_of_getElem? (i := 491) (by decide +kernel)⟩
theorem lw_p7 : lw_okq (⟨"LostQuestions$Matchings", "spreadAhead", "(III)V"⟩, 8) := ⟨⟨by decide +kernel, by decide +kernel⟩, List.mem_of_getElem? (i := 26) (by decide +kernel), List.mem_of_getElem? (i := 508) (by decide +kernel), List.mem_of_getElem? (i := 509) (by decide +kernel)⟩
theorem lw_p8 : lw_okq (⟨"LostQuestions$Matchings", "mostPairs", "()I"⟩, 8) := ⟨⟨by decide +kernel, by decide +kernel⟩, List.mem_of_getElem? (i := 26) (by decide +kernel), List.mem_of_getElem? (i := 512) (by decide +kernel), List.mem_of_getElem? (i := 513) (by decide +kernel)⟩
theorem lw_p9 : lw_okq (⟨"LostQuestions$Matchings", "countOn", "()V"⟩, 8) := ⟨⟨by decide +kernel, by decide +kernel⟩, List.mem_of_getElem? (i := 26) (by decide +kernel), List.mem_of_getElem? (i := 523) (by decide +kernel), List.mem_of_getElem? (i := 524) (by decide +kernel)⟩
theorem lw_p10 : lw_okq (⟨"LostQuestions$Matchings", "waysFrom", "(II)I"⟩, 8) := ⟨⟨by decide +kernel, by decide +kernel⟩, List.mem_of_getElem? (i := 26) (by decide +kernel), List.mem_of_getElem? (i := 527) (by decide +kernel), List.mem_of_getElem? (i := 528) (by decide +kernel)⟩
theorem lw_p11 : lw_okq (⟨"LostQuestions$Matchings", "firstFullest", "(II)I"⟩, 8) := ⟨⟨by decide +kernel, by decide +kernel⟩, List.mem_of_getElem? (i := 26) (by decide +kernel), List.mem_of_getElem? (i := 536) (by decide +kernel), List.mem_of_getElem? (i := 537) (by decide +kernel)⟩
theorem lw_p12 : lw_okq (⟨"LostQuestions$Matchings", "mostFrom", "(III)I"⟩, 8) := ⟨⟨by decide +kernel, by decide +kernel⟩, List.mem_of_getElem? (i := 26) (by decide +kernel), List.mem_of_getElem? (i := 553) (by decide +kernel), List.mem_of_getElem? (i := 554) (by decide +kernel)⟩
theorem lw_p13 : lw_okq (⟨"LostQuestions$Matchings", "firstWished", "(III)I"⟩, 8) := ⟨⟨by decide +kernel, by decide +kernel⟩, List.mem_of_getElem? (i := 26) (by decide +kernel), List.mem_of_getElem? (i := 557) (by decide +kernel), List.mem_of_getElem? (i := 558) (by decide +kernel)⟩
theorem lw_p14 : lw_okq (⟨"LostQuestions", "tellChances", "(JJ)V"⟩, 12) := ⟨⟨by decide +kernel, by decide +kernel⟩, List.mem_of_getElem? (i := 14) (by decide +kernel), List.mem_of_getElem? (i := 591) (by decide +kernel), List.mem_of_getElem? (i := 592) (by decide +kernel)⟩
theorem lw_p15 : lw_okq (⟨"LostQuestions$Parting", "countMeanings", "(LLostQuestions$Library;I)V"⟩, 7) := ⟨⟨by decide +kernel, by decide +kernel⟩, List.mem_of_getElem? (i := 60) (by decide +kernel), List.mem_of_getElem? (i := 620) (by decide +kernel), List.mem_of_getElem? (i := 621) (by decide +kernel)⟩
def lw_privs_1 : List (MethodName × Nat) := [(⟨"LostQuestions", "found", "(I)I"⟩, 12), (⟨"LostQuestions$Library", "readQuestion", "(LLostQuestions$Row;I)I"⟩, 9), (⟨"LostQuestions$Library", "readCard", "(LLostQuestions$Row;I)I"⟩, 9), (⟨"LostQuestions$Library", "yesMeaning", "(I)I"⟩, 9), (⟨"LostQuestions$Library", "cardsOn", "(I)I"⟩, 9), (⟨"LostQuestions$Library", "placesSaying", "(I)I"⟩, 9), (⟨"LostQuestions$Matchings", "countAhead", "(LLostQuestions$Library;)V"⟩, 8), (⟨"LostQuestions$Matchings", "spreadAhead", "(III)V"⟩, 8), (⟨"LostQuestions$Matchings", "mostPairs", "()I"⟩, 8), (⟨"LostQuestions$Matchings", "countOn", "()V"⟩, 8), (⟨"LostQuestions$Matchings", "waysFrom", "(II)I"⟩, 8), (⟨"LostQuestions$Matchings", "firstFullest", "(II)I"⟩, 8), (⟨"LostQuestions$Matchings", "mostFrom", "(III)I"⟩, 8), (⟨"LostQuestions$Matchings", "firstWished", "(III)I"⟩, 8), (⟨"LostQuestions", "tellChances", "(JJ)V"⟩, 12), (⟨"LostQuestions$Parting", "countMeanings", "(LLostQuestions$Library;I)V"⟩, 7)]
theorem lw_r1 : ∀ q ∈ lw_privs_1, lw_okq q := List.forall_mem_cons.mpr ⟨lw_p0, List.forall_mem_cons.mpr ⟨lw_p1, List.forall_mem_cons.mpr ⟨lw_p2, List.forall_mem_cons.mpr ⟨lw_p3, List.forall_mem_cons.mpr ⟨lw_p4, List.forall_mem_cons.mpr ⟨lw_p5, List.forall_mem_cons.mpr ⟨lw_p6, List.forall_mem_cons.mpr ⟨lw_p7, List.forall_mem_cons.mpr ⟨lw_p8, List.forall_mem_cons.mpr ⟨lw_p9, List.forall_mem_cons.mpr ⟨lw_p10, List.forall_mem_cons.mpr ⟨lw_p11, List.forall_mem_cons.mpr ⟨lw_p12, List.forall_mem_cons.mpr ⟨lw_p13, List.forall_mem_cons.mpr ⟨lw_p14, List.forall_mem_cons.mpr ⟨lw_p15, fun _ h => absurd h List.not_mem_nil⟩⟩⟩⟩⟩⟩⟩⟩⟩⟩⟩⟩⟩⟩⟩⟩
theorem lw_p16 : lw_okq (⟨"LostQuestions$Parting", "partFrom", "(III)V"⟩, 7) := ⟨⟨by decide +kernel, by decide +kernel⟩, List.mem_of_getElem? (i := 60) (by decide +kernel), List.mem_of_getElem? (i := 627) (by decide +kernel), List.mem_of_getElem? (i := 628) (by decide +kernel)⟩
theorem lw_p17 : lw_okq (⟨"LostQuestions$Parting", "fewestFor", "(II)I"⟩, 7) := ⟨⟨by decide +kernel, by decide +kernel⟩, List.mem_of_getElem? (i := 60) (by decide +kernel), List.mem_of_getElem? (i := 643) (by decide +kernel), List.mem_of_getElem? (i := 644) (by decide +kernel)⟩
theorem lw_p18 : lw_okq (⟨"LostQuestions$Library", "firstAlike", "(IIZ)I"⟩, 9) := ⟨⟨by decide +kernel, by decide +kernel⟩, List.mem_of_getElem? (i := 91) (by decide +kernel), List.mem_of_getElem? (i := 667) (by decide +kernel), List.mem_of_getElem? (i := 668) (by decide +kernel)⟩
theorem lw_p19 : lw_okq (⟨"LostQuestions$Library", "homeOf", "(I)I"⟩, 9) := ⟨⟨by decide +kernel, by decide +kernel⟩, List.mem_of_getElem? (i := 91) (by decide +kernel), List.mem_of_getElem? (i := 680) (by decide +kernel), List.mem_of_getElem? (i := 681) (by decide +kernel)⟩
theorem lw_p20 : lw_okq (⟨"LostQuestions$Library", "cardsOfOn", "(II)I"⟩, 9) := ⟨⟨by decide +kernel, by decide +kernel⟩, List.mem_of_getElem? (i := 91) (by decide +kernel), List.mem_of_getElem? (i := 684) (by decide +kernel), List.mem_of_getElem? (i := 685) (by decide +kernel)⟩
theorem lw_p21 : lw_okq (⟨"LostQuestions", "keptThere", "()I"⟩, 12) := ⟨⟨by decide +kernel, by decide +kernel⟩, List.mem_of_getElem? (i := 14) (by decide +kernel), List.mem_of_getElem? (i := 751) (by decide +kernel), List.mem_of_getElem? (i := 752) (by decide +kernel)⟩
theorem lw_p22 : lw_okq (⟨"LostQuestionsModel", "found", "(I)I"⟩, 21) := ⟨⟨by decide +kernel, by decide +kernel⟩, List.mem_of_getElem? (i := 782) (by decide +kernel), List.mem_of_getElem? (i := 864) (by decide +kernel), List.mem_of_getElem? (i := 865) (by decide +kernel)⟩
theorem lw_p23 : lw_okq (⟨"LostQuestionsModel", "tell", "(I)I"⟩, 21) := ⟨⟨by decide +kernel, by decide +kernel⟩, List.mem_of_getElem? (i := 782) (by decide +kernel), List.mem_of_getElem? (i := 872) (by decide +kernel), List.mem_of_getElem? (i := 873) (by decide +kernel)⟩
theorem lw_p24 : lw_okq (⟨"LostQuestionsModel", "reads", "(I)I"⟩, 21) := ⟨⟨by decide +kernel, by decide +kernel⟩, List.mem_of_getElem? (i := 782) (by decide +kernel), List.mem_of_getElem? (i := 908) (by decide +kernel), List.mem_of_getElem? (i := 909) (by decide +kernel)⟩
theorem lw_p25 : lw_okq (⟨"LostQuestionsModel", "byteAt", "(I)I"⟩, 21) := ⟨⟨by decide +kernel, by decide +kernel⟩, List.mem_of_getElem? (i := 782) (by decide +kernel), List.mem_of_getElem? (i := 914) (by decide +kernel), List.mem_of_getElem? (i := 915) (by decide +kernel)⟩
theorem lw_p26 : lw_okq (⟨"LostQuestionsModel", "takesQuestion", "(I)Z"⟩, 21) := ⟨⟨by decide +kernel, by decide +kernel⟩, List.mem_of_getElem? (i := 782) (by decide +kernel), List.mem_of_getElem? (i := 918) (by decide +kernel), List.mem_of_getElem? (i := 919) (by decide +kernel)⟩
theorem lw_p27 : lw_okq (⟨"LostQuestionsModel", "takes", "(IIII)Z"⟩, 21) := ⟨⟨by decide +kernel, by decide +kernel⟩, List.mem_of_getElem? (i := 782) (by decide +kernel), List.mem_of_getElem? (i := 922) (by decide +kernel), List.mem_of_getElem? (i := 923) (by decide +kernel)⟩
theorem lw_p28 : lw_okq (⟨"LostQuestionsModel", "takesCard", "(I)Z"⟩, 21) := ⟨⟨by decide +kernel, by decide +kernel⟩, List.mem_of_getElem? (i := 782) (by decide +kernel), List.mem_of_getElem? (i := 926) (by decide +kernel), List.mem_of_getElem? (i := 927) (by decide +kernel)⟩
theorem lw_p29 : lw_okq (⟨"LostQuestionsModel", "isCard", "(I)Z"⟩, 21) := ⟨⟨by decide +kernel, by decide +kernel⟩, List.mem_of_getElem? (i := 782) (by decide +kernel), List.mem_of_getElem? (i := 944) (by decide +kernel), List.mem_of_getElem? (i := 945) (by decide +kernel)⟩
theorem lw_p30 : lw_okq (⟨"LostQuestionsModel", "toldCard", "(II)I"⟩, 21) := ⟨⟨by decide +kernel, by decide +kernel⟩, List.mem_of_getElem? (i := 782) (by decide +kernel), List.mem_of_getElem? (i := 948) (by decide +kernel), List.mem_of_getElem? (i := 949) (by decide +kernel)⟩
theorem lw_p31 : lw_okq (⟨"LostQuestionsModel", "means", "(I)I"⟩, 21) := ⟨⟨by decide +kernel, by decide +kernel⟩, List.mem_of_getElem? (i := 782) (by decide +kernel), List.mem_of_getElem? (i := 952) (by decide +kernel), List.mem_of_getElem? (i := 953) (by decide +kernel)⟩
def lw_privs_2 : List (MethodName × Nat) := [(⟨"LostQuestions$Parting", "partFrom", "(III)V"⟩, 7), (⟨"LostQuestions$Parting", "fewestFor", "(II)I"⟩, 7), (⟨"LostQuestions$Library", "firstAlike", "(IIZ)I"⟩, 9), (⟨"LostQuestions$Library", "homeOf", "(I)I"⟩, 9), (⟨"LostQuestions$Library", "cardsOfOn", "(II)I"⟩, 9), (⟨"LostQuestions", "keptThere", "()I"⟩, 12), (⟨"LostQuestionsModel", "found", "(I)I"⟩, 21), (⟨"LostQuestionsModel", "tell", "(I)I"⟩, 21), (⟨"LostQuestionsModel", "reads", "(I)I"⟩, 21), (⟨"LostQuestionsModel", "byteAt", "(I)I"⟩, 21), (⟨"LostQuestionsModel", "takesQuestion", "(I)Z"⟩, 21), (⟨"LostQuestionsModel", "takes", "(IIII)Z"⟩, 21), (⟨"LostQuestionsModel", "takesCard", "(I)Z"⟩, 21), (⟨"LostQuestionsModel", "isCard", "(I)Z"⟩, 21), (⟨"LostQuestionsModel", "toldCard", "(II)I"⟩, 21), (⟨"LostQuestionsModel", "means", "(I)I"⟩, 21)]
theorem lw_r2 : ∀ q ∈ lw_privs_2, lw_okq q := List.forall_mem_cons.mpr ⟨lw_p16, List.forall_mem_cons.mpr ⟨lw_p17, List.forall_mem_cons.mpr ⟨lw_p18, List.forall_mem_cons.mpr ⟨lw_p19, List.forall_mem_cons.mpr ⟨lw_p20, List.forall_mem_cons.mpr ⟨lw_p21, List.forall_mem_cons.mpr ⟨lw_p22, List.forall_mem_cons.mpr ⟨lw_p23, List.forall_mem_cons.mpr ⟨lw_p24, List.forall_mem_cons.mpr ⟨lw_p25, List.forall_mem_cons.mpr ⟨lw_p26, List.forall_mem_cons.mpr ⟨lw_p27, List.forall_mem_cons.mpr ⟨lw_p28, List.forall_mem_cons.mpr ⟨lw_p29, List.forall_mem_cons.mpr ⟨lw_p30, List.forall_mem_cons.mpr ⟨lw_p31, fun _ h => absurd h List.not_mem_nil⟩⟩⟩⟩⟩⟩⟩⟩⟩⟩⟩⟩⟩⟩⟩⟩
theorem lw_p32 : lw_okq (⟨"LostQuestionsModel", "answers", "(I)I"⟩, 21) := ⟨⟨by decide +kernel, by decide +kernel⟩, List.mem_of_getElem? (i := 782) (by decide +kernel), List.mem_of_getElem? (i := 956) (by decide +kernel), List.mem_of_getElem? (i := 957) (by decide +kernel)⟩
theorem lw_p33 : lw_okq (⟨"LostQuestionsModel", "isQuestion", "(I)Z"⟩, 21) := ⟨⟨by decide +kernel, by decide +kernel⟩, List.mem_of_getElem? (i := 782) (by decide +kernel), List.mem_of_getElem? (i := 964) (by decide +kernel), List.mem_of_getElem? (i := 965) (by decide +kernel)⟩
theorem lw_p34 : lw_okq (⟨"LostQuestionsModel", "isFit", "(II)Z"⟩, 21) := ⟨⟨by decide +kernel, by decide +kernel⟩, List.mem_of_getElem? (i := 782) (by decide +kernel), List.mem_of_getElem? (i := 975) (by decide +kernel), List.mem_of_getElem? (i := 976) (by decide +kernel)⟩
theorem lw_p35 : lw_okq (⟨"LostQuestionsModel", "suits", "(IIII)Z"⟩, 21) := ⟨⟨by decide +kernel, by decide +kernel⟩, List.mem_of_getElem? (i := 782) (by decide +kernel), List.mem_of_getElem? (i := 979) (by decide +kernel), List.mem_of_getElem? (i := 980) (by decide +kernel)⟩
theorem lw_p36 : lw_okq (⟨"LostQuestionsModel", "puts", "(II)I"⟩, 21) := ⟨⟨by decide +kernel, by decide +kernel⟩, List.mem_of_getElem? (i := 782) (by decide +kernel), List.mem_of_getElem? (i := 987) (by decide +kernel), List.mem_of_getElem? (i := 988) (by decide +kernel)⟩
theorem lw_p37 : lw_okq (⟨"LostQuestionsModel", "isFree", "(I)Z"⟩, 21) := ⟨⟨by decide +kernel, by decide +kernel⟩, List.mem_of_getElem? (i := 782) (by decide +kernel), List.mem_of_getElem? (i := 1008) (by decide +kernel), List.mem_of_getElem? (i := 1009) (by decide +kernel)⟩
theorem lw_p38 : lw_okq (⟨"LostQuestionsModel", "isFreeCard", "(I)Z"⟩, 21) := ⟨⟨by decide +kernel, by decide +kernel⟩, List.mem_of_getElem? (i := 782) (by decide +kernel), List.mem_of_getElem? (i := 1012) (by decide +kernel), List.mem_of_getElem? (i := 1013) (by decide +kernel)⟩
theorem lw_p39 : lw_okq (⟨"LostQuestionsModel", "takesIt", "(II)V"⟩, 21) := ⟨⟨by decide +kernel, by decide +kernel⟩, List.mem_of_getElem? (i := 782) (by decide +kernel), List.mem_of_getElem? (i := 1016) (by decide +kernel), List.mem_of_getElem? (i := 1017) (by decide +kernel)⟩
theorem lw_p40 : lw_okq (⟨"LostQuestionsModel", "stands", "(I)I"⟩, 21) := ⟨⟨by decide +kernel, by decide +kernel⟩, List.mem_of_getElem? (i := 782) (by decide +kernel), List.mem_of_getElem? (i := 1020) (by decide +kernel), List.mem_of_getElem? (i := 1021) (by decide +kernel)⟩
theorem lw_p41 : lw_okq (⟨"LostQuestionsModel", "standing", "(I)I"⟩, 21) := ⟨⟨by decide +kernel, by decide +kernel⟩, List.mem_of_getElem? (i := 782) (by decide +kernel), List.mem_of_getElem? (i := 1036) (by decide +kernel), List.mem_of_getElem? (i := 1037) (by decide +kernel)⟩
theorem lw_p42 : lw_okq (⟨"LostQuestionsModel", "layMatchings", "(Z)V"⟩, 21) := ⟨⟨by decide +kernel, by decide +kernel⟩, List.mem_of_getElem? (i := 782) (by decide +kernel), List.mem_of_getElem? (i := 1053) (by decide +kernel), List.mem_of_getElem? (i := 1054) (by decide +kernel)⟩
theorem lw_p43 : lw_okq (⟨"LostQuestionsModel", "counts", "(I)V"⟩, 21) := ⟨⟨by decide +kernel, by decide +kernel⟩, List.mem_of_getElem? (i := 782) (by decide +kernel), List.mem_of_getElem? (i := 1057) (by decide +kernel), List.mem_of_getElem? (i := 1058) (by decide +kernel)⟩
theorem lw_p44 : lw_okq (⟨"LostQuestionsModel", "mayMatch", "(II)Z"⟩, 21) := ⟨⟨by decide +kernel, by decide +kernel⟩, List.mem_of_getElem? (i := 782) (by decide +kernel), List.mem_of_getElem? (i := 1061) (by decide +kernel), List.mem_of_getElem? (i := 1062) (by decide +kernel)⟩
theorem lw_p45 : lw_okq (⟨"LostQuestionsModel", "laid", "(I)I"⟩, 21) := ⟨⟨by decide +kernel, by decide +kernel⟩, List.mem_of_getElem? (i := 782) (by decide +kernel), List.mem_of_getElem? (i := 1065) (by decide +kernel), List.mem_of_getElem? (i := 1066) (by decide +kernel)⟩
theorem lw_p46 : lw_okq (⟨"LostQuestionsModel", "manyFit", "(III)I"⟩, 21) := ⟨⟨by decide +kernel, by decide +kernel⟩, List.mem_of_getElem? (i := 782) (by decide +kernel), List.mem_of_getElem? (i := 1106) (by decide +kernel), List.mem_of_getElem? (i := 1107) (by decide +kernel)⟩
theorem lw_p47 : lw_okq (⟨"LostQuestionsModel", "manyThere", "(III)I"⟩, 21) := ⟨⟨by decide +kernel, by decide +kernel⟩, List.mem_of_getElem? (i := 782) (by decide +kernel), List.mem_of_getElem? (i := 1130) (by decide +kernel), List.mem_of_getElem? (i := 1131) (by decide +kernel)⟩
def lw_privs_3 : List (MethodName × Nat) := [(⟨"LostQuestionsModel", "answers", "(I)I"⟩, 21), (⟨"LostQuestionsModel", "isQuestion", "(I)Z"⟩, 21), (⟨"LostQuestionsModel", "isFit", "(II)Z"⟩, 21), (⟨"LostQuestionsModel", "suits", "(IIII)Z"⟩, 21), (⟨"LostQuestionsModel", "puts", "(II)I"⟩, 21), (⟨"LostQuestionsModel", "isFree", "(I)Z"⟩, 21), (⟨"LostQuestionsModel", "isFreeCard", "(I)Z"⟩, 21), (⟨"LostQuestionsModel", "takesIt", "(II)V"⟩, 21), (⟨"LostQuestionsModel", "stands", "(I)I"⟩, 21), (⟨"LostQuestionsModel", "standing", "(I)I"⟩, 21), (⟨"LostQuestionsModel", "layMatchings", "(Z)V"⟩, 21), (⟨"LostQuestionsModel", "counts", "(I)V"⟩, 21), (⟨"LostQuestionsModel", "mayMatch", "(II)Z"⟩, 21), (⟨"LostQuestionsModel", "laid", "(I)I"⟩, 21), (⟨"LostQuestionsModel", "manyFit", "(III)I"⟩, 21), (⟨"LostQuestionsModel", "manyThere", "(III)I"⟩, 21)]
theorem lw_r3 : ∀ q ∈ lw_privs_3, lw_okq q := List.forall_mem_cons.mpr ⟨lw_p32, List.forall_mem_cons.mpr ⟨lw_p33, List.forall_mem_cons.mpr ⟨lw_p34, List.forall_mem_cons.mpr ⟨lw_p35, List.forall_mem_cons.mpr ⟨lw_p36, List.forall_mem_cons.mpr ⟨lw_p37, List.forall_mem_cons.mpr ⟨lw_p38, List.forall_mem_cons.mpr ⟨lw_p39, List.forall_mem_cons.mpr ⟨lw_p40, List.forall_mem_cons.mpr ⟨lw_p41, List.forall_mem_cons.mpr ⟨lw_p42, List.forall_mem_cons.mpr ⟨lw_p43, List.forall_mem_cons.mpr ⟨lw_p44, List.forall_mem_cons.mpr ⟨lw_p45, List.forall_mem_cons.mpr ⟨lw_p46, List.forall_mem_cons.mpr ⟨lw_p47, fun _ h => absurd h List.not_mem_nil⟩⟩⟩⟩⟩⟩⟩⟩⟩⟩⟩⟩⟩⟩⟩⟩
theorem lw_p48 : lw_okq (⟨"LostQuestionsModel", "manyHere", "(II)I"⟩, 21) := ⟨⟨by decide +kernel, by decide +kernel⟩, List.mem_of_getElem? (i := 782) (by decide +kernel), List.mem_of_getElem? (i := 1134) (by decide +kernel), List.mem_of_getElem? (i := 1135) (by decide +kernel)⟩
theorem lw_p49 : lw_okq (⟨"LostQuestionsModel", "lying", "(II)I"⟩, 21) := ⟨⟨by decide +kernel, by decide +kernel⟩, List.mem_of_getElem? (i := 782) (by decide +kernel), List.mem_of_getElem? (i := 1145) (by decide +kernel), List.mem_of_getElem? (i := 1146) (by decide +kernel)⟩
theorem lw_p50 : lw_okq (⟨"LostQuestionsModel", "counted", "(I)I"⟩, 21) := ⟨⟨by decide +kernel, by decide +kernel⟩, List.mem_of_getElem? (i := 782) (by decide +kernel), List.mem_of_getElem? (i := 1183) (by decide +kernel), List.mem_of_getElem? (i := 1184) (by decide +kernel)⟩
def lw_privs_4 : List (MethodName × Nat) := [(⟨"LostQuestionsModel", "manyHere", "(II)I"⟩, 21), (⟨"LostQuestionsModel", "lying", "(II)I"⟩, 21), (⟨"LostQuestionsModel", "counted", "(I)I"⟩, 21)]
theorem lw_r4 : ∀ q ∈ lw_privs_4, lw_okq q := List.forall_mem_cons.mpr ⟨lw_p48, List.forall_mem_cons.mpr ⟨lw_p49, List.forall_mem_cons.mpr ⟨lw_p50, fun _ h => absurd h List.not_mem_nil⟩⟩⟩
def lw_privs : List (MethodName × Nat) := lw_privs_1 ++ (lw_privs_2 ++ (lw_privs_3 ++ (lw_privs_4)))
def lw_tbl : List Cond := k2_sels lw_privs ++ tables_1
theorem lw_privs_ok : ∀ q ∈ lw_privs, lw_okq q := by
  show ∀ q ∈ lw_privs_1 ++ (lw_privs_2 ++ (lw_privs_3 ++ (lw_privs_4))), lw_okq q
  exact List.forall_mem_append.mpr ⟨lw_r1, List.forall_mem_append.mpr ⟨lw_r2, List.forall_mem_append.mpr ⟨lw_r3, lw_r4⟩⟩⟩
end
section
def RX0 : String := "LostQuestions$Kinds"
def TX0 : u_T := fun k => match k with
  | _ => ("", "", "", false)
def tyX0 : Nat → FieldType := fun k => match k with
  | _ => .int
abbrev wsX00 : List Cond := u_ws RX0 TX0 0
theorem nmX0 : ∀ a, a < 0 → ∀ b, b < 0 → a ≠ b → (TX0 a).2.1 ≠ (TX0 b).2.1 := by decide +kernel
theorem tyX0_ok : ∀ k, k < 0 → parseFieldDescriptor (TX0 k).2.2.1 = some (tyX0 k) := by decide +kernel
abbrev cX0_ofLetter : ByteArray := prog_2_method_2_code
def yX0_ofLetter : MethodName := ⟨RX0, "ofLetter", "(I)I"⟩
abbrev cX0_isA : ByteArray := prog_2_method_3_code
def yX0_isA : MethodName := ⟨RX0, "isA", "(II)Z"⟩
abbrev cX0_meaning : ByteArray := prog_2_method_4_code
def yX0_meaning : MethodName := ⟨RX0, "meaning", "(III)I"⟩
def RX1 : String := "LostQuestions$Library"
def TX1 : u_T := fun k => match k with
  | 0 => ("LostQuestions$Library", "kinds", "[I", true)
  | 1 => ("LostQuestions$Library", "says", "[I", true)
  | 2 => ("LostQuestions$Library", "asksFor", "[I", true)
  | 3 => ("LostQuestions$Library", "froms", "[I", true)
  | 4 => ("LostQuestions$Library", "tos", "[I", true)
  | 5 => ("LostQuestions$Library", "wishes", "[I", true)
  | 6 => ("LostQuestions$Library", "now", "LLostQuestions$Standing;", true)
  | 7 => ("LostQuestions$Library", "cards", "I", false)
  | _ => ("LostQuestions$Library", "questions", "I", false)
def tyX1 : Nat → FieldType := fun k => match k with
  | 0 => .array .int
  | 1 => .array .int
  | 2 => .array .int
  | 3 => .array .int
  | 4 => .array .int
  | 5 => .array .int
  | 6 => .object "LostQuestions$Standing"
  | 7 => .int
  | _ => .int
abbrev wsX10 : List Cond := u_ws RX1 TX1 9
theorem nmX1 : ∀ a, a < 9 → ∀ b, b < 9 → a ≠ b → (TX1 a).2.1 ≠ (TX1 b).2.1 := by decide +kernel
theorem tyX1_ok : ∀ k, k < 9 → parseFieldDescriptor (TX1 k).2.2.1 = some (tyX1 k) := by decide +kernel
abbrev cX1_init : ByteArray := prog_3_method_1_code
def yX1_init : MethodName := ⟨RX1, "<init>", "()V"⟩
abbrev cX1_readFrom : ByteArray := prog_3_method_2_code
def yX1_readFrom : MethodName := ⟨RX1, "readFrom", "(LLostQuestions$Row;)I"⟩
abbrev cX1_pastBlanks : ByteArray := prog_3_method_3_code
def yX1_pastBlanks : MethodName := ⟨RX1, "pastBlanks", "(LLostQuestions$Row;I)I"⟩
abbrev cX1_readCard : ByteArray := prog_3_method_4_code
def yX1_readCard : MethodName := ⟨RX1, "readCard", "(LLostQuestions$Row;I)I"⟩
abbrev cX1_readQuestion : ByteArray := prog_3_method_5_code
def yX1_readQuestion : MethodName := ⟨RX1, "readQuestion", "(LLostQuestions$Row;I)I"⟩
abbrev cX1_figure : ByteArray := prog_3_method_6_code
def yX1_figure : MethodName := ⟨RX1, "figure", "(LLostQuestions$Row;III)I"⟩
abbrev cX1_isCard : ByteArray := prog_3_method_7_code
def yX1_isCard : MethodName := ⟨RX1, "isCard", "(I)Z"⟩
abbrev cX1_isQuestion : ByteArray := prog_3_method_8_code
def yX1_isQuestion : MethodName := ⟨RX1, "isQuestion", "(I)Z"⟩
abbrev cX1_allCards : ByteArray := prog_3_method_9_code
def yX1_allCards : MethodName := ⟨RX1, "allCards", "()I"⟩
abbrev cX1_isFreeCard : ByteArray := prog_3_method_10_code
def yX1_isFreeCard : MethodName := ⟨RX1, "isFreeCard", "(I)Z"⟩
abbrev cX1_isFreeQuestion : ByteArray := prog_3_method_11_code
def yX1_isFreeQuestion : MethodName := ⟨RX1, "isFreeQuestion", "(I)Z"⟩
abbrev cX1_freeCards : ByteArray := prog_3_method_12_code
def yX1_freeCards : MethodName := ⟨RX1, "freeCards", "()I"⟩
abbrev cX1_answered : ByteArray := prog_3_method_13_code
def yX1_answered : MethodName := ⟨RX1, "answered", "()I"⟩
abbrev cX1_meaningOf : ByteArray := prog_3_method_14_code
def yX1_meaningOf : MethodName := ⟨RX1, "meaningOf", "(I)I"⟩
abbrev cX1_isFitting : ByteArray := prog_3_method_15_code
def yX1_isFitting : MethodName := ⟨RX1, "isFitting", "(II)Z"⟩
abbrev cX1_fittingCards : ByteArray := prog_3_method_16_code
def yX1_fittingCards : MethodName := ⟨RX1, "fittingCards", "(I)I"⟩
abbrev cX1_trueCards : ByteArray := prog_3_method_17_code
def yX1_trueCards : MethodName := ⟨RX1, "trueCards", "(I)I"⟩
abbrev cX1_questionsFitted : ByteArray := prog_3_method_18_code
def yX1_questionsFitted : MethodName := ⟨RX1, "questionsFitted", "(I)I"⟩
abbrev cX1_verdict : ByteArray := prog_3_method_19_code
def yX1_verdict : MethodName := ⟨RX1, "verdict", "(I)I"⟩
abbrev cX1_answeredWith : ByteArray := prog_3_method_20_code
def yX1_answeredWith : MethodName := ⟨RX1, "answeredWith", "(I)I"⟩
abbrev cX1_waysOfTruth : ByteArray := prog_3_method_21_code
def yX1_waysOfTruth : MethodName := ⟨RX1, "waysOfTruth", "(I)I"⟩
abbrev cX1_cardFact : ByteArray := prog_3_method_22_code
def yX1_cardFact : MethodName := ⟨RX1, "cardFact", "(II)I"⟩
abbrev cX1_questionFact : ByteArray := prog_3_method_23_code
def yX1_questionFact : MethodName := ⟨RX1, "questionFact", "(II)I"⟩
abbrev cX1_markOf : ByteArray := prog_3_method_24_code
def yX1_markOf : MethodName := ⟨RX1, "markOf", "(II)I"⟩
abbrev cX1_yesMeaning : ByteArray := prog_3_method_25_code
def yX1_yesMeaning : MethodName := ⟨RX1, "yesMeaning", "(I)I"⟩
abbrev cX1_cardsOn : ByteArray := prog_3_method_26_code
def yX1_cardsOn : MethodName := ⟨RX1, "cardsOn", "(I)I"⟩
abbrev cX1_placesSaying : ByteArray := prog_3_method_27_code
def yX1_placesSaying : MethodName := ⟨RX1, "placesSaying", "(I)I"⟩
abbrev cX1_placesAmong : ByteArray := prog_3_method_28_code
def yX1_placesAmong : MethodName := ⟨RX1, "placesAmong", "()I"⟩
abbrev cX1_pairsWith : ByteArray := prog_3_method_29_code
def yX1_pairsWith : MethodName := ⟨RX1, "pairsWith", "(LLostQuestions$Row;Z)I"⟩
abbrev cX1_firstAlike : ByteArray := prog_3_method_30_code
def yX1_firstAlike : MethodName := ⟨RX1, "firstAlike", "(IIZ)I"⟩
abbrev cX1_cardsOfOn : ByteArray := prog_3_method_31_code
def yX1_cardsOfOn : MethodName := ⟨RX1, "cardsOfOn", "(II)I"⟩
abbrev cX1_homeOf : ByteArray := prog_3_method_32_code
def yX1_homeOf : MethodName := ⟨RX1, "homeOf", "(I)I"⟩
abbrev cX1_strayCards : ByteArray := prog_3_method_33_code
def yX1_strayCards : MethodName := ⟨RX1, "strayCards", "()I"⟩
abbrev cX1_fewestMoved : ByteArray := prog_3_method_34_code
def yX1_fewestMoved : MethodName := ⟨RX1, "fewestMoved", "()I"⟩
abbrev cX1_mostStaying : ByteArray := prog_3_method_35_code
def yX1_mostStaying : MethodName := ⟨RX1, "mostStaying", "(LLostQuestions$Library;III)I"⟩
abbrev cX1_layByAge : ByteArray := prog_3_method_36_code
def yX1_layByAge : MethodName := ⟨RX1, "layByAge", "(LLostQuestions$Row;)V"⟩
abbrev cX1_cardByLot : ByteArray := prog_3_method_37_code
def yX1_cardByLot : MethodName := ⟨RX1, "cardByLot", "(IJ)I"⟩
abbrev cX1_foldInto : ByteArray := prog_3_method_38_code
def yX1_foldInto : MethodName := ⟨RX1, "foldInto", "(J)J"⟩
def RX2 : String := "LostQuestions$Matchings"
def TX2 : u_T := fun k => match k with
  | 0 => ("LostQuestions$Matchings", "pairable", "[I", true)
  | 1 => ("LostQuestions$Matchings", "waysAhead", "[I", true)
  | 2 => ("LostQuestions$Matchings", "waysOn", "[I", true)
  | 3 => ("LostQuestions$Matchings", "questions", "I", false)
  | 4 => ("LostQuestions$Matchings", "cards", "I", false)
  | 5 => ("LostQuestions$Matchings", "sets", "I", false)
  | 6 => ("LostQuestions$Matchings", "pairs", "I", false)
  | _ => ("LostQuestions$Matchings", "total", "I", false)
def tyX2 : Nat → FieldType := fun k => match k with
  | 0 => .array .int
  | 1 => .array .int
  | 2 => .array .int
  | 3 => .int
  | 4 => .int
  | 5 => .int
  | 6 => .int
  | _ => .int
abbrev wsX20 : List Cond := u_ws RX2 TX2 8
theorem nmX2 : ∀ a, a < 8 → ∀ b, b < 8 → a ≠ b → (TX2 a).2.1 ≠ (TX2 b).2.1 := by decide +kernel
theorem tyX2_ok : ∀ k, k < 8 → parseFieldDescriptor (TX2 k).2.2.1 = some (tyX2 k) := by decide +kernel
abbrev cX2_init : ByteArray := prog_4_method_1_code
def yX2_init : MethodName := ⟨RX2, "<init>", "()V"⟩
abbrev cX2_countIn : ByteArray := prog_4_method_2_code
def yX2_countIn : MethodName := ⟨RX2, "countIn", "(LLostQuestions$Library;)V"⟩
abbrev cX2_countAhead : ByteArray := prog_4_method_3_code
def yX2_countAhead : MethodName := ⟨RX2, "countAhead", "(LLostQuestions$Library;)V"⟩
abbrev cX2_spreadAhead : ByteArray := prog_4_method_4_code
def yX2_spreadAhead : MethodName := ⟨RX2, "spreadAhead", "(III)V"⟩
abbrev cX2_mostPairs : ByteArray := prog_4_method_5_code
def yX2_mostPairs : MethodName := ⟨RX2, "mostPairs", "()I"⟩
abbrev cX2_countOn : ByteArray := prog_4_method_6_code
def yX2_countOn : MethodName := ⟨RX2, "countOn", "()V"⟩
abbrev cX2_waysFrom : ByteArray := prog_4_method_7_code
def yX2_waysFrom : MethodName := ⟨RX2, "waysFrom", "(II)I"⟩
abbrev cX2_countWith : ByteArray := prog_4_method_8_code
def yX2_countWith : MethodName := ⟨RX2, "countWith", "(II)I"⟩
abbrev cX2_sureCard : ByteArray := prog_4_method_9_code
def yX2_sureCard : MethodName := ⟨RX2, "sureCard", "(I)I"⟩
abbrev cX2_layFullest : ByteArray := prog_4_method_10_code
def yX2_layFullest : MethodName := ⟨RX2, "layFullest", "(LLostQuestions$Row;)V"⟩
abbrev cX2_firstFullest : ByteArray := prog_4_method_11_code
def yX2_firstFullest : MethodName := ⟨RX2, "firstFullest", "(II)I"⟩
abbrev cX2_layMostWished : ByteArray := prog_4_method_12_code
def yX2_layMostWished : MethodName := ⟨RX2, "layMostWished", "(LLostQuestions$Library;LLostQuestions$Row;)I"⟩
abbrev cX2_mostFrom : ByteArray := prog_4_method_13_code
def yX2_mostFrom : MethodName := ⟨RX2, "mostFrom", "(III)I"⟩
abbrev cX2_firstWished : ByteArray := prog_4_method_14_code
def yX2_firstWished : MethodName := ⟨RX2, "firstWished", "(III)I"⟩
def RX3 : String := "LostQuestions$Parting"
def TX3 : u_T := fun k => match k with
  | 0 => ("LostQuestions$Parting", "meaning", "[I", true)
  | 1 => ("LostQuestions$Parting", "cardsOf", "[I", true)
  | 2 => ("LostQuestions$Parting", "fewestOf", "[I", true)
  | 3 => ("LostQuestions$Parting", "best", "I", false)
  | 4 => ("LostQuestions$Parting", "fitting", "I", false)
  | 5 => ("LostQuestions$Parting", "fewest", "I", false)
  | _ => ("LostQuestions$Parting", "leastRank", "I", false)
def tyX3 : Nat → FieldType := fun k => match k with
  | 0 => .array .int
  | 1 => .array .int
  | 2 => .array .int
  | 3 => .int
  | 4 => .int
  | 5 => .int
  | _ => .int
abbrev wsX30 : List Cond := u_ws RX3 TX3 7
theorem nmX3 : ∀ a, a < 7 → ∀ b, b < 7 → a ≠ b → (TX3 a).2.1 ≠ (TX3 b).2.1 := by decide +kernel
theorem tyX3_ok : ∀ k, k < 7 → parseFieldDescriptor (TX3 k).2.2.1 = some (tyX3 k) := by decide +kernel
abbrev cX3_init : ByteArray := prog_5_method_1_code
def yX3_init : MethodName := ⟨RX3, "<init>", "()V"⟩
abbrev cX3_partBest : ByteArray := prog_5_method_2_code
def yX3_partBest : MethodName := ⟨RX3, "partBest", "(LLostQuestions$Library;)V"⟩
abbrev cX3_countMeanings : ByteArray := prog_5_method_3_code
def yX3_countMeanings : MethodName := ⟨RX3, "countMeanings", "(LLostQuestions$Library;I)V"⟩
abbrev cX3_partFrom : ByteArray := prog_5_method_4_code
def yX3_partFrom : MethodName := ⟨RX3, "partFrom", "(III)V"⟩
abbrev cX3_findIn : ByteArray := prog_5_method_5_code
def yX3_findIn : MethodName := ⟨RX3, "findIn", "(LLostQuestions$Library;I)V"⟩
abbrev cX3_fewestFor : ByteArray := prog_5_method_6_code
def yX3_fewestFor : MethodName := ⟨RX3, "fewestFor", "(II)I"⟩
def RX4 : String := "LostQuestions$Row"
def TX4 : u_T := fun k => match k with
  | 0 => ("LostQuestions$Row", "places", "[I", true)
  | _ => ("LostQuestions$Row", "size", "I", false)
def tyX4 : Nat → FieldType := fun k => match k with
  | 0 => .array .int
  | _ => .int
abbrev wsX40 : List Cond := u_ws RX4 TX4 2
theorem nmX4 : ∀ a, a < 2 → ∀ b, b < 2 → a ≠ b → (TX4 a).2.1 ≠ (TX4 b).2.1 := by decide +kernel
theorem tyX4_ok : ∀ k, k < 2 → parseFieldDescriptor (TX4 k).2.2.1 = some (tyX4 k) := by decide +kernel
abbrev cX4_init : ByteArray := prog_6_method_1_code
def yX4_init : MethodName := ⟨RX4, "<init>", "(I)V"⟩
abbrev cX4_isThere : ByteArray := prog_6_method_2_code
def yX4_isThere : MethodName := ⟨RX4, "isThere", "()Z"⟩
abbrev cX4_reaches : ByteArray := prog_6_method_3_code
def yX4_reaches : MethodName := ⟨RX4, "reaches", "(I)Z"⟩
abbrev cX4_holds : ByteArray := prog_6_method_4_code
def yX4_holds : MethodName := ⟨RX4, "holds", "(II)Z"⟩
abbrev cX4_begin : ByteArray := prog_6_method_5_code
def yX4_begin : MethodName := ⟨RX4, "begin", "(II)V"⟩
abbrev cX4_layAt : ByteArray := prog_6_method_6_code
def yX4_layAt : MethodName := ⟨RX4, "layAt", "(II)V"⟩
abbrev cX4_foldInto : ByteArray := prog_6_method_7_code
def yX4_foldInto : MethodName := ⟨RX4, "foldInto", "(J)J"⟩
def RX5 : String := "LostQuestions$Standing"
def TX5 : u_T := fun k => match k with
  | 0 => ("LostQuestions$Standing", "shelves", "[I", true)
  | 1 => ("LostQuestions$Standing", "ages", "[I", true)
  | 2 => ("LostQuestions$Standing", "truths", "[I", true)
  | 3 => ("LostQuestions$Standing", "cardOf", "[I", true)
  | 4 => ("LostQuestions$Standing", "taken", "[I", true)
  | 5 => ("LostQuestions$Standing", "cardsAhead", "[I", true)
  | _ => ("LostQuestions$Standing", "takings", "I", false)
def tyX5 : Nat → FieldType := fun k => match k with
  | 0 => .array .int
  | 1 => .array .int
  | 2 => .array .int
  | 3 => .array .int
  | 4 => .array .int
  | 5 => .array .int
  | _ => .int
abbrev wsX50 : List Cond := u_ws RX5 TX5 7
theorem nmX5 : ∀ a, a < 7 → ∀ b, b < 7 → a ≠ b → (TX5 a).2.1 ≠ (TX5 b).2.1 := by decide +kernel
theorem tyX5_ok : ∀ k, k < 7 → parseFieldDescriptor (TX5 k).2.2.1 = some (tyX5 k) := by decide +kernel
abbrev cX5_init : ByteArray := prog_7_method_1_code
def yX5_init : MethodName := ⟨RX5, "<init>", "()V"⟩
abbrev cX5_begin : ByteArray := prog_7_method_2_code
def yX5_begin : MethodName := ⟨RX5, "begin", "()V"⟩
abbrev cX5_questionOf : ByteArray := prog_7_method_3_code
def yX5_questionOf : MethodName := ⟨RX5, "questionOf", "(I)I"⟩
abbrev cX5_addTaking : ByteArray := prog_7_method_4_code
def yX5_addTaking : MethodName := ⟨RX5, "addTaking", "(II)V"⟩
abbrev cX5_goBack : ByteArray := prog_7_method_5_code
def yX5_goBack : MethodName := ⟨RX5, "goBack", "(I)I"⟩
abbrev cX5_become : ByteArray := prog_7_method_6_code
def yX5_become : MethodName := ⟨RX5, "become", "(LLostQuestions$Standing;)V"⟩
def RX6 : String := "LostQuestions"
def TX6 : u_T := fun k => match k with
  | 0 => ("LostQuestions", "rows", "[LLostQuestions$Row;", true)
  | 1 => ("LostQuestions", "texts", "[LLostQuestions$Row;", true)
  | 2 => ("LostQuestions", "kept", "[LLostQuestions$Standing;", true)
  | 3 => ("LostQuestions", "findingCounts", "[I", true)
  | 4 => ("LostQuestions", "matchings", "LLostQuestions$Matchings;", true)
  | 5 => ("LostQuestions", "parting", "LLostQuestions$Parting;", true)
  | 6 => ("LostQuestions", "here", "LLostQuestions$Library;", false)
  | 7 => ("LostQuestions", "draft", "LLostQuestions$Library;", false)
  | 8 => ("LostQuestions", "told", "I", false)
  | 9 => ("LostQuestions", "chanceUpper", "J", false)
  | 10 => ("LostQuestions", "chanceLower", "J", false)
  | _ => ("LostQuestions", "latestFinding", "I", false)
def tyX6 : Nat → FieldType := fun k => match k with
  | 0 => .array (.object "LostQuestions$Row")
  | 1 => .array (.object "LostQuestions$Row")
  | 2 => .array (.object "LostQuestions$Standing")
  | 3 => .array .int
  | 4 => .object "LostQuestions$Matchings"
  | 5 => .object "LostQuestions$Parting"
  | 6 => .object "LostQuestions$Library"
  | 7 => .object "LostQuestions$Library"
  | 8 => .int
  | 9 => .long
  | 10 => .long
  | _ => .int
abbrev wsX60 : List Cond := u_ws RX6 TX6 12
theorem nmX6 : ∀ a, a < 12 → ∀ b, b < 12 → a ≠ b → (TX6 a).2.1 ≠ (TX6 b).2.1 := by decide +kernel
theorem tyX6_ok : ∀ k, k < 12 → parseFieldDescriptor (TX6 k).2.2.1 = some (tyX6 k) := by decide +kernel
abbrev cX6_init : ByteArray := prog_1_method_1_code
def yX6_init : MethodName := ⟨RX6, "<init>", "()V"⟩
abbrev cX6_row : ByteArray := prog_1_method_2_code
def yX6_row : MethodName := ⟨RX6, "row", "(II)I"⟩
abbrev cX6_lay : ByteArray := prog_1_method_3_code
def yX6_lay : MethodName := ⟨RX6, "lay", "(III)I"⟩
abbrev cX6_at : ByteArray := prog_1_method_4_code
def yX6_at : MethodName := ⟨RX6, "at", "(II)I"⟩
abbrev cX6_tear : ByteArray := prog_1_method_5_code
def yX6_tear : MethodName := ⟨RX6, "tear", "(I)I"⟩
abbrev cX6_copy : ByteArray := prog_1_method_6_code
def yX6_copy : MethodName := ⟨RX6, "copy", "(IIIII)I"⟩
abbrev cX6_mean : ByteArray := prog_1_method_7_code
def yX6_mean : MethodName := ⟨RX6, "mean", "(I)I"⟩
abbrev cX6_text : ByteArray := prog_1_method_8_code
def yX6_text : MethodName := ⟨RX6, "text", "(II)I"⟩
abbrev cX6_put : ByteArray := prog_1_method_9_code
def yX6_put : MethodName := ⟨RX6, "put", "(III)I"⟩
abbrev cX6_fault : ByteArray := prog_1_method_10_code
def yX6_fault : MethodName := ⟨RX6, "fault", "(I)I"⟩
abbrev cX6_library : ByteArray := prog_1_method_11_code
def yX6_library : MethodName := ⟨RX6, "library", "(I)I"⟩
abbrev cX6_card : ByteArray := prog_1_method_12_code
def yX6_card : MethodName := ⟨RX6, "card", "(II)I"⟩
abbrev cX6_question : ByteArray := prog_1_method_13_code
def yX6_question : MethodName := ⟨RX6, "question", "(II)I"⟩
abbrev cX6_mark : ByteArray := prog_1_method_14_code
def yX6_mark : MethodName := ⟨RX6, "mark", "(II)I"⟩
abbrev cX6_shelve : ByteArray := prog_1_method_15_code
def yX6_shelve : MethodName := ⟨RX6, "shelve", "(II)I"⟩
abbrev cX6_age : ByteArray := prog_1_method_16_code
def yX6_age : MethodName := ⟨RX6, "age", "(II)I"⟩
abbrev cX6_truth : ByteArray := prog_1_method_17_code
def yX6_truth : MethodName := ⟨RX6, "truth", "(II)I"⟩
abbrev cX6_fits : ByteArray := prog_1_method_18_code
def yX6_fits : MethodName := ⟨RX6, "fits", "(I)I"⟩
abbrev cX6_take : ByteArray := prog_1_method_19_code
def yX6_take : MethodName := ⟨RX6, "take", "(II)I"⟩
abbrev cX6_bring : ByteArray := prog_1_method_20_code
def yX6_bring : MethodName := ⟨RX6, "bring", "(I)I"⟩
abbrev cX6_undo : ByteArray := prog_1_method_21_code
def yX6_undo : MethodName := ⟨RX6, "undo", "(I)I"⟩
abbrev cX6_right : ByteArray := prog_1_method_22_code
def yX6_right : MethodName := ⟨RX6, "right", "()I"⟩
abbrev cX6_keep : ByteArray := prog_1_method_23_code
def yX6_keep : MethodName := ⟨RX6, "keep", "(I)I"⟩
abbrev cX6_on : ByteArray := prog_1_method_24_code
def yX6_on : MethodName := ⟨RX6, "on", "(I)I"⟩
abbrev cX6_match : ByteArray := prog_1_method_25_code
def yX6_match : MethodName := ⟨RX6, "match", "(I)I"⟩
abbrev cX6_wished : ByteArray := prog_1_method_26_code
def yX6_wished : MethodName := ⟨RX6, "wished", "(I)I"⟩
abbrev cX6_fullest : ByteArray := prog_1_method_27_code
def yX6_fullest : MethodName := ⟨RX6, "fullest", "()I"⟩
abbrev cX6_may : ByteArray := prog_1_method_28_code
def yX6_may : MethodName := ⟨RX6, "may", "(I)I"⟩
abbrev cX6_sure : ByteArray := prog_1_method_29_code
def yX6_sure : MethodName := ⟨RX6, "sure", "(I)I"⟩
abbrev cX6_test : ByteArray := prog_1_method_30_code
def yX6_test : MethodName := ⟨RX6, "test", "()I"⟩
abbrev cX6_odds : ByteArray := prog_1_method_31_code
def yX6_odds : MethodName := ⟨RX6, "odds", "(II)I"⟩
abbrev cX6_worlds : ByteArray := prog_1_method_32_code
def yX6_worlds : MethodName := ⟨RX6, "worlds", "()I"⟩
abbrev cX6_never : ByteArray := prog_1_method_33_code
def yX6_never : MethodName := ⟨RX6, "never", "()I"⟩
abbrev cX6_parts : ByteArray := prog_1_method_34_code
def yX6_parts : MethodName := ⟨RX6, "parts", "()I"⟩
abbrev cX6_finds : ByteArray := prog_1_method_35_code
def yX6_finds : MethodName := ⟨RX6, "finds", "(I)I"⟩
abbrev cX6_left : ByteArray := prog_1_method_36_code
def yX6_left : MethodName := ⟨RX6, "left", "(I)I"⟩
abbrev cX6_forged : ByteArray := prog_1_method_37_code
def yX6_forged : MethodName := ⟨RX6, "forged", "()I"⟩
abbrev cX6_beside : ByteArray := prog_1_method_38_code
def yX6_beside : MethodName := ⟨RX6, "beside", "(I)I"⟩
abbrev cX6_habit : ByteArray := prog_1_method_39_code
def yX6_habit : MethodName := ⟨RX6, "habit", "()I"⟩
abbrev cX6_order : ByteArray := prog_1_method_40_code
def yX6_order : MethodName := ⟨RX6, "order", "()I"⟩
abbrev cX6_byAge : ByteArray := prog_1_method_41_code
def yX6_byAge : MethodName := ⟨RX6, "byAge", "(I)I"⟩
abbrev cX6_lots : ByteArray := prog_1_method_42_code
def yX6_lots : MethodName := ⟨RX6, "lots", "(II)I"⟩
abbrev cX6_asked : ByteArray := prog_1_method_43_code
def yX6_asked : MethodName := ⟨RX6, "asked", "()I"⟩
abbrev cX6_upper : ByteArray := prog_1_method_44_code
def yX6_upper : MethodName := ⟨RX6, "upper", "()J"⟩
abbrev cX6_lower : ByteArray := prog_1_method_45_code
def yX6_lower : MethodName := ⟨RX6, "lower", "()J"⟩
abbrev cX6_count : ByteArray := prog_1_method_46_code
def yX6_count : MethodName := ⟨RX6, "count", "(I)I"⟩
abbrev cX6_finding : ByteArray := prog_1_method_47_code
def yX6_finding : MethodName := ⟨RX6, "finding", "()I"⟩
abbrev cX6_findings : ByteArray := prog_1_method_48_code
def yX6_findings : MethodName := ⟨RX6, "findings", "(I)I"⟩
abbrev cX6_digest : ByteArray := prog_1_method_49_code
def yX6_digest : MethodName := ⟨RX6, "digest", "()J"⟩
abbrev cX6_found : ByteArray := prog_1_method_50_code
def yX6_found : MethodName := ⟨RX6, "found", "(I)I"⟩
abbrev cX6_tellChances : ByteArray := prog_1_method_51_code
def yX6_tellChances : MethodName := ⟨RX6, "tellChances", "(JJ)V"⟩
abbrev cX6_keptThere : ByteArray := prog_1_method_52_code
def yX6_keptThere : MethodName := ⟨RX6, "keptThere", "()I"⟩
abbrev cX6_thereAmong : ByteArray := prog_1_method_53_code
def yX6_thereAmong : MethodName := ⟨RX6, "thereAmong", "([LLostQuestions$Row;)I"⟩
abbrev cX6_greatestShared : ByteArray := prog_1_method_54_code
def yX6_greatestShared : MethodName := ⟨RX6, "greatestShared", "(JJ)J"⟩
abbrev cX6_isRow : ByteArray := prog_1_method_55_code
def yX6_isRow : MethodName := ⟨RX6, "isRow", "(I)Z"⟩
abbrev cX6_isText : ByteArray := prog_1_method_56_code
def yX6_isText : MethodName := ⟨RX6, "isText", "(I)Z"⟩
abbrev cX6_isPlaceKept : ByteArray := prog_1_method_57_code
def yX6_isPlaceKept : MethodName := ⟨RX6, "isPlaceKept", "(I)Z"⟩
def RX7 : String := "LostQuestionsModel"
def TX7 : u_T := fun k => match k with
  | 0 => ("LostQuestionsModel", "rowSizes", "[I", true)
  | 1 => ("LostQuestionsModel", "rows", "[I", true)
  | 2 => ("LostQuestionsModel", "textSizes", "[I", true)
  | 3 => ("LostQuestionsModel", "texts", "[I", true)
  | 4 => ("LostQuestionsModel", "now", "[I", true)
  | 5 => ("LostQuestionsModel", "keeps", "[I", true)
  | 6 => ("LostQuestionsModel", "kept", "[Z", true)
  | 7 => ("LostQuestionsModel", "asked", "I", false)
  | 8 => ("LostQuestionsModel", "upper", "J", false)
  | 9 => ("LostQuestionsModel", "lower", "J", false)
  | 10 => ("LostQuestionsModel", "finding", "I", false)
  | 11 => ("LostQuestionsModel", "findings", "[I", true)
  | 12 => ("LostQuestionsModel", "read", "[I", true)
  | 13 => ("LostQuestionsModel", "at", "I", false)
  | 14 => ("LostQuestionsModel", "chosen", "[I", true)
  | 15 => ("LostQuestionsModel", "best", "[I", true)
  | 16 => ("LostQuestionsModel", "within", "[I", true)
  | 17 => ("LostQuestionsModel", "all", "I", false)
  | 18 => ("LostQuestionsModel", "most", "I", false)
  | 19 => ("LostQuestionsModel", "asks", "[I", true)
  | _ => ("LostQuestionsModel", "firsts", "[I", true)
def tyX7 : Nat → FieldType := fun k => match k with
  | 0 => .array .int
  | 1 => .array .int
  | 2 => .array .int
  | 3 => .array .int
  | 4 => .array .int
  | 5 => .array .int
  | 6 => .array .boolean
  | 7 => .int
  | 8 => .long
  | 9 => .long
  | 10 => .int
  | 11 => .array .int
  | 12 => .array .int
  | 13 => .int
  | 14 => .array .int
  | 15 => .array .int
  | 16 => .array .int
  | 17 => .int
  | 18 => .int
  | 19 => .array .int
  | _ => .array .int
abbrev wsX70 : List Cond := u_ws RX7 TX7 21
theorem nmX7 : ∀ a, a < 21 → ∀ b, b < 21 → a ≠ b → (TX7 a).2.1 ≠ (TX7 b).2.1 := by decide +kernel
theorem tyX7_ok : ∀ k, k < 21 → parseFieldDescriptor (TX7 k).2.2.1 = some (tyX7 k) := by decide +kernel
abbrev cX7_init : ByteArray := prog_9_method_1_code
def yX7_init : MethodName := ⟨RX7, "<init>", "()V"⟩
abbrev cX7_in : ByteArray := prog_9_method_3_code
def yX7_in : MethodName := ⟨RX7, "in", "(JJJ)Z"⟩
abbrev cX7_found : ByteArray := prog_9_method_4_code
def yX7_found : MethodName := ⟨RX7, "found", "(I)I"⟩
abbrev cX7_tell : ByteArray := prog_9_method_5_code
def yX7_tell : MethodName := ⟨RX7, "tell", "(I)I"⟩
abbrev cX7_isRow : ByteArray := prog_9_method_6_code
def yX7_isRow : MethodName := ⟨RX7, "isRow", "(I)Z"⟩
abbrev cX7_isText : ByteArray := prog_9_method_7_code
def yX7_isText : MethodName := ⟨RX7, "isText", "(I)Z"⟩
abbrev cX7_row : ByteArray := prog_9_method_8_code
def yX7_row : MethodName := ⟨RX7, "row", "(II)I"⟩
abbrev cX7_lay : ByteArray := prog_9_method_9_code
def yX7_lay : MethodName := ⟨RX7, "lay", "(III)I"⟩
abbrev cX7_at : ByteArray := prog_9_method_10_code
def yX7_at : MethodName := ⟨RX7, "at", "(II)I"⟩
abbrev cX7_tear : ByteArray := prog_9_method_11_code
def yX7_tear : MethodName := ⟨RX7, "tear", "(I)I"⟩
abbrev cX7_copy : ByteArray := prog_9_method_12_code
def yX7_copy : MethodName := ⟨RX7, "copy", "(IIIII)I"⟩
abbrev cX7_mean : ByteArray := prog_9_method_13_code
def yX7_mean : MethodName := ⟨RX7, "mean", "(I)I"⟩
abbrev cX7_text : ByteArray := prog_9_method_14_code
def yX7_text : MethodName := ⟨RX7, "text", "(II)I"⟩
abbrev cX7_put : ByteArray := prog_9_method_15_code
def yX7_put : MethodName := ⟨RX7, "put", "(III)I"⟩
abbrev cX7_kindOf : ByteArray := prog_9_method_16_code
def yX7_kindOf : MethodName := ⟨RX7, "kindOf", "(I)I"⟩
abbrev cX7_byteAt : ByteArray := prog_9_method_17_code
def yX7_byteAt : MethodName := ⟨RX7, "byteAt", "(I)I"⟩
abbrev cX7_takes : ByteArray := prog_9_method_18_code
def yX7_takes : MethodName := ⟨RX7, "takes", "(IIII)Z"⟩
abbrev cX7_takesCard : ByteArray := prog_9_method_19_code
def yX7_takesCard : MethodName := ⟨RX7, "takesCard", "(I)Z"⟩
abbrev cX7_takesQuestion : ByteArray := prog_9_method_20_code
def yX7_takesQuestion : MethodName := ⟨RX7, "takesQuestion", "(I)Z"⟩
abbrev cX7_reads : ByteArray := prog_9_method_21_code
def yX7_reads : MethodName := ⟨RX7, "reads", "(I)I"⟩
abbrev cX7_fault : ByteArray := prog_9_method_22_code
def yX7_fault : MethodName := ⟨RX7, "fault", "(I)I"⟩
abbrev cX7_copies : ByteArray := prog_9_method_23_code
def yX7_copies : MethodName := ⟨RX7, "copies", "([II[II)V"⟩
abbrev cX7_library : ByteArray := prog_9_method_24_code
def yX7_library : MethodName := ⟨RX7, "library", "(I)I"⟩
abbrev cX7_isCard : ByteArray := prog_9_method_25_code
def yX7_isCard : MethodName := ⟨RX7, "isCard", "(I)Z"⟩
abbrev cX7_isQuestion : ByteArray := prog_9_method_26_code
def yX7_isQuestion : MethodName := ⟨RX7, "isQuestion", "(I)Z"⟩
abbrev cX7_isOf : ByteArray := prog_9_method_27_code
def yX7_isOf : MethodName := ⟨RX7, "isOf", "(II)Z"⟩
abbrev cX7_means : ByteArray := prog_9_method_28_code
def yX7_means : MethodName := ⟨RX7, "means", "(I)I"⟩
abbrev cX7_suits : ByteArray := prog_9_method_29_code
def yX7_suits : MethodName := ⟨RX7, "suits", "(IIII)Z"⟩
abbrev cX7_isFit : ByteArray := prog_9_method_30_code
def yX7_isFit : MethodName := ⟨RX7, "isFit", "(II)Z"⟩
abbrev cX7_answers : ByteArray := prog_9_method_31_code
def yX7_answers : MethodName := ⟨RX7, "answers", "(I)I"⟩
abbrev cX7_toldCard : ByteArray := prog_9_method_32_code
def yX7_toldCard : MethodName := ⟨RX7, "toldCard", "(II)I"⟩
abbrev cX7_card : ByteArray := prog_9_method_33_code
def yX7_card : MethodName := ⟨RX7, "card", "(II)I"⟩
abbrev cX7_question : ByteArray := prog_9_method_34_code
def yX7_question : MethodName := ⟨RX7, "question", "(II)I"⟩
abbrev cX7_mark : ByteArray := prog_9_method_35_code
def yX7_mark : MethodName := ⟨RX7, "mark", "(II)I"⟩
abbrev cX7_puts : ByteArray := prog_9_method_36_code
def yX7_puts : MethodName := ⟨RX7, "puts", "(II)I"⟩
abbrev cX7_shelve : ByteArray := prog_9_method_37_code
def yX7_shelve : MethodName := ⟨RX7, "shelve", "(II)I"⟩
abbrev cX7_age : ByteArray := prog_9_method_38_code
def yX7_age : MethodName := ⟨RX7, "age", "(II)I"⟩
abbrev cX7_truth : ByteArray := prog_9_method_39_code
def yX7_truth : MethodName := ⟨RX7, "truth", "(II)I"⟩
abbrev cX7_fits : ByteArray := prog_9_method_40_code
def yX7_fits : MethodName := ⟨RX7, "fits", "(I)I"⟩
abbrev cX7_isFreeCard : ByteArray := prog_9_method_41_code
def yX7_isFreeCard : MethodName := ⟨RX7, "isFreeCard", "(I)Z"⟩
abbrev cX7_isFree : ByteArray := prog_9_method_42_code
def yX7_isFree : MethodName := ⟨RX7, "isFree", "(I)Z"⟩
abbrev cX7_takesIt : ByteArray := prog_9_method_43_code
def yX7_takesIt : MethodName := ⟨RX7, "takesIt", "(II)V"⟩
abbrev cX7_stands : ByteArray := prog_9_method_44_code
def yX7_stands : MethodName := ⟨RX7, "stands", "(I)I"⟩
abbrev cX7_take : ByteArray := prog_9_method_45_code
def yX7_take : MethodName := ⟨RX7, "take", "(II)I"⟩
abbrev cX7_bring : ByteArray := prog_9_method_46_code
def yX7_bring : MethodName := ⟨RX7, "bring", "(I)I"⟩
abbrev cX7_undo : ByteArray := prog_9_method_47_code
def yX7_undo : MethodName := ⟨RX7, "undo", "(I)I"⟩
abbrev cX7_standing : ByteArray := prog_9_method_48_code
def yX7_standing : MethodName := ⟨RX7, "standing", "(I)I"⟩
abbrev cX7_right : ByteArray := prog_9_method_49_code
def yX7_right : MethodName := ⟨RX7, "right", "()I"⟩
abbrev cX7_keep : ByteArray := prog_9_method_50_code
def yX7_keep : MethodName := ⟨RX7, "keep", "(I)I"⟩
abbrev cX7_on : ByteArray := prog_9_method_51_code
def yX7_on : MethodName := ⟨RX7, "on", "(I)I"⟩
abbrev cX7_mayMatch : ByteArray := prog_9_method_52_code
def yX7_mayMatch : MethodName := ⟨RX7, "mayMatch", "(II)Z"⟩
abbrev cX7_layMatchings : ByteArray := prog_9_method_53_code
def yX7_layMatchings : MethodName := ⟨RX7, "layMatchings", "(Z)V"⟩
abbrev cX7_counts : ByteArray := prog_9_method_54_code
def yX7_counts : MethodName := ⟨RX7, "counts", "(I)V"⟩
abbrev cX7_laid : ByteArray := prog_9_method_55_code
def yX7_laid : MethodName := ⟨RX7, "laid", "(I)I"⟩
abbrev cX7_match : ByteArray := prog_9_method_56_code
def yX7_match : MethodName := ⟨RX7, "match", "(I)I"⟩
abbrev cX7_wished : ByteArray := prog_9_method_57_code
def yX7_wished : MethodName := ⟨RX7, "wished", "(I)I"⟩
abbrev cX7_fullest : ByteArray := prog_9_method_58_code
def yX7_fullest : MethodName := ⟨RX7, "fullest", "()I"⟩
abbrev cX7_may : ByteArray := prog_9_method_59_code
def yX7_may : MethodName := ⟨RX7, "may", "(I)I"⟩
abbrev cX7_sure : ByteArray := prog_9_method_60_code
def yX7_sure : MethodName := ⟨RX7, "sure", "(I)I"⟩
abbrev cX7_test : ByteArray := prog_9_method_61_code
def yX7_test : MethodName := ⟨RX7, "test", "()I"⟩
abbrev cX7_odds : ByteArray := prog_9_method_62_code
def yX7_odds : MethodName := ⟨RX7, "odds", "(II)I"⟩
abbrev cX7_worlds : ByteArray := prog_9_method_63_code
def yX7_worlds : MethodName := ⟨RX7, "worlds", "()I"⟩
abbrev cX7_never : ByteArray := prog_9_method_64_code
def yX7_never : MethodName := ⟨RX7, "never", "()I"⟩
abbrev cX7_manyFit : ByteArray := prog_9_method_65_code
def yX7_manyFit : MethodName := ⟨RX7, "manyFit", "(III)I"⟩
abbrev cX7_parts : ByteArray := prog_9_method_66_code
def yX7_parts : MethodName := ⟨RX7, "parts", "()I"⟩
abbrev cX7_isOne : ByteArray := prog_9_method_67_code
def yX7_isOne : MethodName := ⟨RX7, "isOne", "(I)Z"⟩
abbrev cX7_finds : ByteArray := prog_9_method_68_code
def yX7_finds : MethodName := ⟨RX7, "finds", "(I)I"⟩
abbrev cX7_left : ByteArray := prog_9_method_69_code
def yX7_left : MethodName := ⟨RX7, "left", "(I)I"⟩
abbrev cX7_forged : ByteArray := prog_9_method_70_code
def yX7_forged : MethodName := ⟨RX7, "forged", "()I"⟩
abbrev cX7_lesser : ByteArray := prog_9_method_71_code
def yX7_lesser : MethodName := ⟨RX7, "lesser", "(II)I"⟩
abbrev cX7_manyThere : ByteArray := prog_9_method_72_code
def yX7_manyThere : MethodName := ⟨RX7, "manyThere", "(III)I"⟩
abbrev cX7_manyHere : ByteArray := prog_9_method_73_code
def yX7_manyHere : MethodName := ⟨RX7, "manyHere", "(II)I"⟩
abbrev cX7_beside : ByteArray := prog_9_method_74_code
def yX7_beside : MethodName := ⟨RX7, "beside", "(I)I"⟩
abbrev cX7_lying : ByteArray := prog_9_method_75_code
def yX7_lying : MethodName := ⟨RX7, "lying", "(II)I"⟩
abbrev cX7_habit : ByteArray := prog_9_method_76_code
def yX7_habit : MethodName := ⟨RX7, "habit", "()I"⟩
abbrev cX7_order : ByteArray := prog_9_method_77_code
def yX7_order : MethodName := ⟨RX7, "order", "()I"⟩
abbrev cX7_byAge : ByteArray := prog_9_method_78_code
def yX7_byAge : MethodName := ⟨RX7, "byAge", "(I)I"⟩
abbrev cX7_lots : ByteArray := prog_9_method_79_code
def yX7_lots : MethodName := ⟨RX7, "lots", "(II)I"⟩
abbrev cX7_asked : ByteArray := prog_9_method_80_code
def yX7_asked : MethodName := ⟨RX7, "asked", "()I"⟩
abbrev cX7_upper : ByteArray := prog_9_method_81_code
def yX7_upper : MethodName := ⟨RX7, "upper", "()J"⟩
abbrev cX7_lower : ByteArray := prog_9_method_82_code
def yX7_lower : MethodName := ⟨RX7, "lower", "()J"⟩
abbrev cX7_counted : ByteArray := prog_9_method_83_code
def yX7_counted : MethodName := ⟨RX7, "counted", "(I)I"⟩
abbrev cX7_count : ByteArray := prog_9_method_84_code
def yX7_count : MethodName := ⟨RX7, "count", "(I)I"⟩
abbrev cX7_finding : ByteArray := prog_9_method_85_code
def yX7_finding : MethodName := ⟨RX7, "finding", "()I"⟩
abbrev cX7_findings : ByteArray := prog_9_method_86_code
def yX7_findings : MethodName := ⟨RX7, "findings", "(I)I"⟩
abbrev cX7_digest : ByteArray := prog_9_method_87_code
def yX7_digest : MethodName := ⟨RX7, "digest", "()J"⟩
def RJ6 : String := "java/lang/Integer"
abbrev cJ6_bitCount_0f7a4 : ByteArray := prog_10_method_49_code
def yJ6_bitCount_0f7a4 : MethodName := ⟨RJ6, "bitCount", "(I)I"⟩
def RJ9 : String := "java/lang/Math"
abbrev cJ9_abs_0f7a4 : ByteArray := prog_11_method_59_code
def yJ9_abs_0f7a4 : MethodName := ⟨RJ9, "abs", "(I)I"⟩
abbrev cJ9_max_7cf53 : ByteArray := prog_11_method_65_code
def yJ9_max_7cf53 : MethodName := ⟨RJ9, "max", "(II)I"⟩
abbrev cJ9_min_7cf53 : ByteArray := prog_11_method_69_code
def yJ9_min_7cf53 : MethodName := ⟨RJ9, "min", "(II)I"⟩
def RJ10 : String := "java/lang/System"
def RJ7 : String := "java/util/Arrays"
abbrev cJ7_fill_53178 : ByteArray := prog_13_method_103_code
def yJ7_fill_53178 : MethodName := ⟨RJ7, "fill", "([II)V"⟩
def RL : String := "LostQuestionsLaw"
abbrev cL_law : ByteArray := code
def yL_law : MethodName := ⟨RL, "law", "([I)Z"⟩
abbrev vwCl : List vw_C := [(RX1, TX1, 9), (RX2, TX2, 8), (RX3, TX3, 7), (RX4, TX4, 2), (RX5, TX5, 7), (RX6, TX6, 12), (RX7, TX7, 21)]
theorem inX1 : ∀ w ∈ wsX10, w ∈ lw_tbl := by decide +kernel
theorem inX2 : ∀ w ∈ wsX20, w ∈ lw_tbl := by decide +kernel
theorem inX3 : ∀ w ∈ wsX30, w ∈ lw_tbl := by decide +kernel
theorem inX4 : ∀ w ∈ wsX40, w ∈ lw_tbl := by decide +kernel
theorem inX5 : ∀ w ∈ wsX50, w ∈ lw_tbl := by decide +kernel
theorem inX6 : ∀ w ∈ wsX60, w ∈ lw_tbl := by decide +kernel
theorem inX7 : ∀ w ∈ wsX70, w ∈ lw_tbl := by decide +kernel
end
section
/-! The abstract machine: cells by number, typed contents; 'Go' is the kit's W over every concrete state that holds the abstract one. -/
def lw_g : List Cond := lw_tbl.filter goodWord
def am_nest : Cond → Bool
  | .fieldLinkNest .. => true
  | .methodLinkNest .. => true
  | _ => false
def lw_n : List Cond := lw_tbl.filter am_nest
/-- contents: ints, longs, references (numbers of cells), by cell and place -/
abbrev aSt : Type := (Nat → Nat → Int32) × (Nat → Nat → Int64) × (Nat → Nat → Option Nat)
/-- the run's constants: the heap at the law's entry, the script's address, the letters' address, the script's length and ints, classes, array classes -/
abbrev aG : Type := Heap × Nat × Nat × Nat × (Nat → Int32) × va_G × (ClassId × ClassId × ClassId × ClassId)
abbrev gB (G : aG) : Nat := G.1.size
abbrev gD (G : aG) : va_G := G.2.2.2.2.2.1
abbrev gC (G : aG) : ClassId × ClassId × ClassId × ClassId := G.2.2.2.2.2.2
/-- a method: code, locals, answer's type, class, name -/
abbrev aM : Type := ByteArray × Nat × Option FieldType × String × String
def qa (G : aG) (k : Nat) : Nat := if k = 1000 then G.2.1 else if k = 1001 then G.2.2.1 else gB G + k
/-- what each cell is: a class's number (0 to 6), or 7 ints, 8 booleans, 9 Rows, 10 Standings; how many places -/
def SHl : List (Nat × Nat) := [(5, 0), (9, 6), (9, 4), (10, 3), (7, 6), (1, 0), (7, 7), (7, 1024), (7, 1024), (2, 0), (7, 10), (7, 7), (7, 128), (0, 0), (7, 7), (7, 7), (7, 7), (7, 7), (7, 7), (7, 7), (4, 0), (7, 7), (7, 7), (7, 7), (7, 7), (7, 40), (7, 280), (0, 0), (7, 7), (7, 7), (7, 7), (7, 7), (7, 7), (7, 7), (4, 0), (7, 7), (7, 7), (7, 7), (7, 7), (7, 40), (7, 280), (3, 0), (7, 40), (3, 0), (7, 40), (3, 0), (7, 40), (3, 0), (7, 40), (3, 0), (7, 40), (3, 0), (7, 40), (3, 0), (7, 80), (3, 0), (7, 80), (3, 0), (7, 80), (3, 0), (7, 80), (4, 0), (7, 7), (7, 7), (7, 7), (7, 7), (7, 40), (7, 280), (4, 0), (7, 7), (7, 7), (7, 7), (7, 7), (7, 40), (7, 280), (4, 0), (7, 7), (7, 7), (7, 7), (7, 7), (7, 40), (7, 280), (6, 0), (7, 6), (7, 240), (7, 4), (7, 320), (7, 393), (7, 1179), (8, 3), (7, 6), (7, 393), (7, 7), (7, 7), (7, 49), (7, 128), (7, 128)]
def SH (k : Nat) : Nat × Nat := SHl.getD k (99, 0)
def ftys (c : Nat) : List Nat := match c with
  | 0 => [2, 2, 2, 2, 2, 2, 2, 0, 0]
  | 1 => [2, 2, 2, 0, 0, 0, 0, 0]
  | 2 => [2, 2, 2, 0, 0, 0, 0]
  | 3 => [2, 0]
  | 4 => [2, 2, 2, 2, 2, 2, 0]
  | 5 => [2, 2, 2, 2, 2, 2, 2, 2, 0, 1, 1, 0]
  | 6 => [2, 2, 2, 2, 2, 2, 2, 0, 1, 1, 0, 2, 2, 0, 2, 2, 2, 0, 0, 2, 2]
  | _ => []
def am_fv (G : aG) (S : aSt) (k j ty : Nat) : Value := match ty with
  | 0 => .int (S.1 k j)
  | 1 => .long (S.2.1 k j)
  | _ => va_rf ((S.2.2 k j).map (qa G))
def am_fs (G : aG) (S : aSt) (k : Nat) : List Value := (List.range (ftys (SH k).1).length).map (fun j => am_fv G S k j ((ftys (SH k).1).getD j 0))
def am_cE (G : aG) (S : aSt) (k : Nat) : va_E := match (SH k).1 with
  | 7 => .inl ((gC G).1, (SH k).2, .inl (S.1 k))
  | 8 => .inl ((gC G).2.1, (SH k).2, .inl (S.1 k))
  | 9 => .inl ((gC G).2.2.1, (SH k).2, .inr (.inr (.inr (.inr (fun i => (S.2.2 k i).map (qa G))))))
  | 10 => .inl ((gC G).2.2.2, (SH k).2, .inr (.inr (.inr (.inr (fun i => (S.2.2 k i).map (qa G))))))
  | c => .inr (c, am_fs G S k)
def aws (G : aG) (n : Nat) (S : aSt) : va_W := (List.range n).map (fun k => (gB G + k, am_cE G S k))
def aty (G : aG) : List (ClassId × FieldType) := [((gC G).1, .int), ((gC G).2.1, .boolean), ((gC G).2.2.1, .object "LostQuestions$Row"), ((gC G).2.2.2, .object "LostQuestions$Standing")]
abbrev gA (G : aG) : Nat → Prop := fun a => gB G ≤ a
def am_let : Nat → Int32 := fun j => match j with
  | 0 => 110
  | 1 => 121
  | 2 => 112
  | 3 => 118
  | 4 => 116
  | _ => 98
def aW (G : aG) (n : Nat) (S : aSt) (H : Heap) : Prop := n ≤ 100 ∧ va_P (gD G) vwCl (aws G n S) H ∧ ∀ a, a < gB G → H[a]? = G.1[a]?
def aK (G : aG) (s : State) : Prop := va_K (gD G) vwCl (aty G) s ∧ (∀ w ∈ lw_n, va_Nw w s) ∧ va_AO "LostQuestions$Row" s ∧ va_AO "LostQuestions$Standing" s ∧ va_X G.2.1 G.2.2.2.1 G.2.2.2.2.1 s G.1 ∧ va_Z "LostQuestions$Kinds" "LETTERS" "[I" (.ref G.2.2.1) (gA G) s G.1 ∧ va_T .int G.2.2.1 6 (fun j => .int (am_let j)) (gA G) s G.1
def cV (G : aG) (v : Value) : Value := match v with
  | .ref k => .ref (qa G k)
  | w => w
def cL (G : aG) (q : Nat × Value) : Nat × Value := (q.1, cV G q.2)
theorem cV_cat (G : aG) (v : Value) : (cV G v).category = v.category := by cases v <;> rfl
theorem aK.moved {G : aG} {s U : State} (hW : s.WarmedH U.vm) (h : aK G s) : aK G U := by
  obtain ⟨h1, h2, h3, h4, h5, h6, h7⟩ := h
  refine ⟨h1.moved hW.alike, fun w hw => ?_, h3.moved hW.alike, h4.moved hW.alike, h5.moved hW.alike, h6.moved hW.alike, h7.moved hW.alike⟩
  have hz := h2 w hw
  have hn : am_nest w = true := (List.mem_filter.mp hw).2
  cases w <;> simp [am_nest] at hn
  · exact va_Nw.warmM hW hz
  · exact va_Nw.warmF hW hz
theorem aws_len (G : aG) (n : Nat) (S : aSt) : (aws G n S).length = n := by simp [aws]
theorem aws_get {G : aG} {n : Nat} {S : aSt} {k : Nat} (h : k < n) : (aws G n S)[k]? = some (gB G + k, am_cE G S k) := by
  simp [aws, h]
theorem aws_some {G : aG} {n : Nat} {S : aSt} {k : Nat} {q : Nat × va_E} (h : (aws G n S)[k]? = some q) : k < n ∧ q = (gB G + k, am_cE G S k) := by
  have hk : k < n := by have := (List.getElem?_eq_some_iff.mp h).1; simpa [aws_len] using this
  rw [aws_get hk] at h
  exact ⟨hk, (Option.some.inj h).symm⟩
theorem aws_D (G : aG) (n : Nat) (S : aSt) : va_D (gA G) (aws G n S) := by
  refine ⟨fun i j p q hi hj h => ?_, fun k q hk => ?_⟩
  · obtain ⟨-, rfl⟩ := aws_some hi
    obtain ⟨-, rfl⟩ := aws_some hj
    simpa using h
  · obtain ⟨-, rfl⟩ := aws_some hk
    exact Nat.le_add_right _ _
theorem aws_set {G : aG} {n : Nat} {S S' : aSt} {k : Nat} {e : va_E} (he : am_cE G S' k = e) (ho : ∀ j, j ≠ k → am_cE G S' j = am_cE G S j) : (aws G n S).set k (gB G + k, e) = aws G n S' := by
  apply List.ext_getElem?
  intro j
  by_cases hjk : j = k
  · subst hjk
    by_cases hj : j < n
    · rw [List.getElem?_set_self (by rw [aws_len]; exact hj), aws_get hj, he]
    · rw [List.getElem?_eq_none (by rw [List.length_set, aws_len]; omega), List.getElem?_eq_none (by rw [aws_len]; omega)]
  · rw [List.getElem?_set_ne (Ne.symm hjk)]
    by_cases hj : j < n
    · rw [aws_get hj, aws_get hj, ho j hjk]
    · rw [List.getElem?_eq_none (by rw [aws_len]; omega), List.getElem?_eq_none (by rw [aws_len]; omega)]
theorem am_cE_congr {G : aG} {S S' : aSt} {j : Nat} (h1 : S'.1 j = S.1 j) (h2 : S'.2.1 j = S.2.1 j) (h3 : S'.2.2 j = S.2.2 j) : am_cE G S' j = am_cE G S j := by
  have hf : am_fs G S' j = am_fs G S j := by
    unfold am_fs am_fv
    rw [h1, h2, h3]
  unfold am_cE
  rw [h1, h3, hf]
theorem qa_own {G : aG} {k : Nat} (h : k < 1000) : qa G k = gB G + k := by
  unfold qa
  rw [if_neg (by omega), if_neg (by omega)]
/-- a write of an int, a long, a reference -/
def stI (S : aSt) (k j : Nat) (v : Int32) : aSt := (fun a => if a = k then upd (S.1 k) j v else S.1 a, S.2)
def stL (S : aSt) (k j : Nat) (v : Int64) : aSt := (S.1, fun a => if a = k then vp_updL (S.2.1 k) j v else S.2.1 a, S.2.2)
def stR (S : aSt) (k j : Nat) (v : Option Nat) : aSt := (S.1, S.2.1, fun a => if a = k then va_up (S.2.2 k) j v else S.2.2 a)
/-- a whole row -/
def stRow (S : aSt) (k : Nat) (f : Nat → Int32) : aSt := (fun a => if a = k then f else S.1 a, S.2)
theorem stI_row (S : aSt) (k j : Nat) (v : Int32) : stI S k j v = stRow S k (upd (S.1 k) j v) := rfl
theorem stI_self (S : aSt) (k j : Nat) (v : Int32) : (stI S k j v).1 k = upd (S.1 k) j v := by simp [stI]
theorem stI_ne {S : aSt} {k j a : Nat} {v : Int32} (h : a ≠ k) : (stI S k j v).1 a = S.1 a := by simp [stI, h]
def inb (i : Int32) (n : Nat) : Bool := !(decide (i < 0) || decide (n ≤ i.toNatClampNeg))
theorem inb_in {i : Int32} {n : Nat} (h : inb i n = true) : vp_in i n := by
  simp [inb] at h
  intro q
  rcases q with q | q
  · exact absurd q (by simpa using h.1)
  · omega
/-- the parts of the functions that the code is read as -/
def grd {α : Type} (b : Bool) (x : Option α) : Option α := if b then x else none
def nm {α β : Type} (x : α) (f : α → Option β) : Option β := f x
def jn {α β : Type} (f : α) (g : α → Option β) : Option β := g f
def isT (k t : Nat) : Bool := decide (k < 97) && decide ((SH k).1 = t)
/-- a reference that is read: not null, of its kind -/
def rfd {β : Type} (o : Option Nat) (t : Nat) (f : Nat → Option β) : Option β := match o with
  | some k => if isT k t then f k else none
  | none => none
theorem f_grd {α : Type} {b : Bool} {x : Option α} {r : α} (h : grd b x = some r) : b = true ∧ x = some r := by
  unfold grd at h
  cases b
  · simp at h
  · exact ⟨rfl, by simpa using h⟩
theorem f_nm {α β : Type} {x : α} {f : α → Option β} {r : β} (h : nm x f = some r) : ∃ z, z = x ∧ f z = some r := ⟨x, rfl, h⟩
theorem f_jn {α β : Type} {f : α} {g : α → Option β} {r : β} (h : jn f g = some r) : ∃ z, z = f ∧ g z = some r := ⟨f, rfl, h⟩
theorem f_rfd {β : Type} {o : Option Nat} {t : Nat} {f : Nat → Option β} {r : β} (h : rfd o t f = some r) : ∃ k, o = some k ∧ isT k t = true ∧ f k = some r := by
  cases o with
  | none => cases h
  | some k =>
    unfold rfd at h
    dsimp only at h
    by_cases hk : isT k t = true
    · rw [if_pos hk] at h
      exact ⟨k, rfl, hk, h⟩
    · rw [if_neg hk] at h
      cases h
theorem f_bnd {α β : Type} {o : Option α} {f : α → Option β} {r : β} (h : o.bind f = some r) : ∃ z, o = some z ∧ f z = some r := by
  cases o with
  | none => cases h
  | some z => exact ⟨z, rfl, h⟩
theorem f_if {α : Type} {c : Prop} [Decidable c] {x y : Option α} {r : α} (h : (if c then x else y) = some r) (hc : c) : x = some r := by rw [if_pos hc] at h; exact h
theorem f_el {α : Type} {c : Prop} [Decidable c] {x y : Option α} {r : α} (h : (if c then x else y) = some r) (hc : ¬ c) : y = some r := by rw [if_neg hc] at h; exact h
theorem isT_lt {k t : Nat} (h : isT k t = true) : k < 97 := by simp [isT] at h; exact h.1
theorem isT_sh {k t : Nat} (h : isT k t = true) : (SH k).1 = t := by simp [isT] at h; exact h.2
end
section
/-! The judgement 'Go' and its rows: one an instruction. -/
/-- what holds in a method's frame: the machine, its code, its words, the run's constants -/
def aC (G : aG) (M : aM) (p : Program) (s : State) (m : MethodId) (args : Array Value) (meth : Method) (c : Code) : Prop :=
  p.tables.exec = Jvm.exec ∧ c.code = M.1 ∧ c.maxLocals = M.2.1 ∧ meth.sig.returnType = M.2.2.1 ∧ s.vm.findClass M.2.2.2.1 = some m.cls ∧ meth.name = M.2.2.2.2 ∧ meth.locks = false ∧ (∀ w ∈ lw_g, w.before args s = true) ∧ aK G s ∧ ∀ a, a < gB G → s.heap[a]? = G.1[a]?
def Go (G : aG) (l : Launch) (R : Room) (Tm : List Frame → Array Value → State → State → Prop) (M : aM) (n cells slots : Nat) (pc : Nat) (lv : List (Nat × Value)) (st : List Value) (S : aSt) : Prop :=
  ∀ (p : Program) (e : Env) (s : State) (m : MethodId) (args : Array Value) (below : List Frame) (meth : Method) (c : Code) (H : Heap) (locs : List Loc) (ls : Array Slot),
    aC G M p s m args meth c → s.heap.size + cells = gB G + n → va_S (gA G) s.heap H locs → aW G n S H → lv_has ls M.2.1 (lv.map (cL G)) → W p l e R s m args below meth c H locs cells slots (Tm below args s) (F0 m pc ls (st.map (cV G)))
section GO
variable {G : aG} {l : Launch} {R : Room} {Tm : List Frame → Array Value → State → State → Prop} {M : aM} {n cells slots pc : Nat} {lv : List (Nat × Value)} {st : List Value} {S : aSt}
theorem am_at {ls : Array Slot} {nL : Nat} {lv : List (Nat × Value)} {G : aG} (h : lv_has ls nL (lv.map (cL G))) (j : Nat) {i : Nat} {v : Value} (hj : lv[j]? = some (i, v)) : ls[i]? = some (.val (cV G v)) :=
  lv_at h j (by rw [List.getElem?_map, hj]; rfl)
theorem am_filter (G : aG) (i : Nat) (lv : List (Nat × Value)) : (lv.map (cL G)).filter (fun q => !(q.1 == i) && !(q.1 + 1 == i && q.2.category == 2)) = (lv.filter (fun q => !(q.1 == i) && !(q.1 + 1 == i && q.2.category == 2))).map (cL G) := by
  rw [List.filter_map]
  congr 1
  apply List.filter_congr
  intro q _
  simp [cL, cV_cat]
theorem am_filterL (G : aG) (i : Nat) (lv : List (Nat × Value)) : (lv.map (cL G)).filter (fun q => !(q.1 == i) && (!(q.1 == i + 1) && !(q.1 + 1 == i && q.2.category == 2))) = (lv.filter (fun q => !(q.1 == i) && (!(q.1 == i + 1) && !(q.1 + 1 == i && q.2.category == 2)))).map (cL G) := by
  rw [List.filter_map]
  congr 1
  apply List.filter_congr
  intro q _
  simp [cL, cV_cat]

theorem Go.iload_n {i : Fin 4} {x : Int32} (j : Nat) (pc' : Nat) (hp : pc + 1 = pc') (hd : decode M.1 pc = .ok (.iload_n i, 1)) (hj : lv[j]? = some ((i : Nat), .int x)) (k : Go G l R Tm M n cells slots pc' lv (.int x :: st) S) : Go G l R Tm M n cells slots pc lv (st) S := by
  subst hp
  intro p e s m args below meth c H locs ls C hn hS hW hl
  exact lv_iload_n C.1 C.2.1 hd rfl (am_at hl j hj) (k p e s m args below meth c H locs ls C hn hS hW hl)

theorem Go.iload {i : Nat} {x : Int32} (j : Nat) (pc' : Nat) (hp : pc + 2 = pc') (hd : decode M.1 pc = .ok (.iload i, 2)) (hj : lv[j]? = some (i, .int x)) (k : Go G l R Tm M n cells slots pc' lv (.int x :: st) S) : Go G l R Tm M n cells slots pc lv (st) S := by
  subst hp
  intro p e s m args below meth c H locs ls C hn hS hW hl
  exact lv_iload C.1 C.2.1 hd (am_at hl j hj) (k p e s m args below meth c H locs ls C hn hS hW hl)

theorem Go.lload_n {i : Fin 4} {x : Int64} (j : Nat) (pc' : Nat) (hp : pc + 1 = pc') (hd : decode M.1 pc = .ok (.lload_n i, 1)) (hj : lv[j]? = some ((i : Nat), .long x)) (k : Go G l R Tm M n cells slots pc' lv (.long x :: st) S) : Go G l R Tm M n cells slots pc lv (st) S := by
  subst hp
  intro p e s m args below meth c H locs ls C hn hS hW hl
  exact lv_lload_n C.1 C.2.1 hd rfl (am_at hl j hj) (k p e s m args below meth c H locs ls C hn hS hW hl)

theorem Go.lload {i : Nat} {x : Int64} (j : Nat) (pc' : Nat) (hp : pc + 2 = pc') (hd : decode M.1 pc = .ok (.lload i, 2)) (hj : lv[j]? = some (i, .long x)) (k : Go G l R Tm M n cells slots pc' lv (.long x :: st) S) : Go G l R Tm M n cells slots pc lv (st) S := by
  subst hp
  intro p e s m args below meth c H locs ls C hn hS hW hl
  exact lv_lload C.1 C.2.1 hd (am_at hl j hj) (k p e s m args below meth c H locs ls C hn hS hW hl)

theorem Go.aload_n {i : Fin 4} {x : Nat} (j : Nat) (pc' : Nat) (hp : pc + 1 = pc') (hd : decode M.1 pc = .ok (.aload_n i, 1)) (hj : lv[j]? = some ((i : Nat), .ref x)) (k : Go G l R Tm M n cells slots pc' lv (.ref x :: st) S) : Go G l R Tm M n cells slots pc lv (st) S := by
  subst hp
  intro p e s m args below meth c H locs ls C hn hS hW hl
  exact lv_aload_n C.1 C.2.1 hd rfl (am_at hl j hj) (k p e s m args below meth c H locs ls C hn hS hW hl)

theorem Go.aload {i : Nat} {x : Nat} (j : Nat) (pc' : Nat) (hp : pc + 2 = pc') (hd : decode M.1 pc = .ok (.aload i, 2)) (hj : lv[j]? = some (i, .ref x)) (k : Go G l R Tm M n cells slots pc' lv (.ref x :: st) S) : Go G l R Tm M n cells slots pc lv (st) S := by
  subst hp
  intro p e s m args below meth c H locs ls C hn hS hW hl
  exact lv_aload C.1 C.2.1 hd (am_at hl j hj) (k p e s m args below meth c H locs ls C hn hS hW hl)

theorem Go.istore_n {i : Fin 4} {x : Int32} (pc' : Nat) (lv' : List (Nat × Value)) (hp : pc + 1 = pc') (hd : decode M.1 pc = .ok (.istore_n i, 1)) (hi : (i : Nat) < M.2.1) (hv : ((i : Nat), Value.int x) :: lv.filter (fun q => !(q.1 == (i : Nat)) && !(q.1 + 1 == (i : Nat) && q.2.category == 2)) = lv') (k : Go G l R Tm M n cells slots pc' lv' st S) : Go G l R Tm M n cells slots pc lv (.int x :: st) S := by
  subst hp
  subst hv
  intro p e s m args below meth c H locs ls C hn hS hW hl
  exact lv_istore_n C.1 C.2.1 hd rfl hl hi (by rw [am_filter]; rfl) (fun ls' hl' => k p e s m args below meth c H locs ls' C hn hS hW hl')

theorem Go.istore {i : Nat} {x : Int32} (pc' : Nat) (lv' : List (Nat × Value)) (hp : pc + 2 = pc') (hd : decode M.1 pc = .ok (.istore i, 2)) (hi : i < M.2.1) (hv : (i, Value.int x) :: lv.filter (fun q => !(q.1 == i) && !(q.1 + 1 == i && q.2.category == 2)) = lv') (k : Go G l R Tm M n cells slots pc' lv' st S) : Go G l R Tm M n cells slots pc lv (.int x :: st) S := by
  subst hp
  subst hv
  intro p e s m args below meth c H locs ls C hn hS hW hl
  exact lv_istore C.1 C.2.1 hd hl hi (by rw [am_filter]; rfl) (fun ls' hl' => k p e s m args below meth c H locs ls' C hn hS hW hl')

theorem Go.astore_n {i : Fin 4} {x : Nat} (pc' : Nat) (lv' : List (Nat × Value)) (hp : pc + 1 = pc') (hd : decode M.1 pc = .ok (.astore_n i, 1)) (hi : (i : Nat) < M.2.1) (hv : ((i : Nat), Value.ref x) :: lv.filter (fun q => !(q.1 == (i : Nat)) && !(q.1 + 1 == (i : Nat) && q.2.category == 2)) = lv') (k : Go G l R Tm M n cells slots pc' lv' st S) : Go G l R Tm M n cells slots pc lv (.ref x :: st) S := by
  subst hp
  subst hv
  intro p e s m args below meth c H locs ls C hn hS hW hl
  exact lv_astore_n C.1 C.2.1 hd rfl hl hi (by rw [am_filter]; rfl) (fun ls' hl' => k p e s m args below meth c H locs ls' C hn hS hW hl')

theorem Go.astore {i : Nat} {x : Nat} (pc' : Nat) (lv' : List (Nat × Value)) (hp : pc + 2 = pc') (hd : decode M.1 pc = .ok (.astore i, 2)) (hi : i < M.2.1) (hv : (i, Value.ref x) :: lv.filter (fun q => !(q.1 == i) && !(q.1 + 1 == i && q.2.category == 2)) = lv') (k : Go G l R Tm M n cells slots pc' lv' st S) : Go G l R Tm M n cells slots pc lv (.ref x :: st) S := by
  subst hp
  subst hv
  intro p e s m args below meth c H locs ls C hn hS hW hl
  exact lv_astore C.1 C.2.1 hd hl hi (by rw [am_filter]; rfl) (fun ls' hl' => k p e s m args below meth c H locs ls' C hn hS hW hl')

theorem Go.lstore_n {i : Fin 4} {x : Int64} (pc' : Nat) (lv' : List (Nat × Value)) (hp : pc + 1 = pc') (hd : decode M.1 pc = .ok (.lstore_n i, 1)) (hi : (i : Nat) + 1 < M.2.1) (hv : ((i : Nat), Value.long x) :: lv.filter (fun q => !(q.1 == (i : Nat)) && (!(q.1 == (i : Nat) + 1) && !(q.1 + 1 == (i : Nat) && q.2.category == 2))) = lv') (k : Go G l R Tm M n cells slots pc' lv' st S) : Go G l R Tm M n cells slots pc lv (.long x :: st) S := by
  subst hp
  subst hv
  intro p e s m args below meth c H locs ls C hn hS hW hl
  exact lv_lstore_n C.1 C.2.1 hd rfl hl hi (by rw [am_filterL]; rfl) (fun ls' hl' => k p e s m args below meth c H locs ls' C hn hS hW hl')

theorem Go.lstore {i : Nat} {x : Int64} (pc' : Nat) (lv' : List (Nat × Value)) (hp : pc + 2 = pc') (hd : decode M.1 pc = .ok (.lstore i, 2)) (hi : i + 1 < M.2.1) (hv : (i, Value.long x) :: lv.filter (fun q => !(q.1 == i) && (!(q.1 == i + 1) && !(q.1 + 1 == i && q.2.category == 2))) = lv') (k : Go G l R Tm M n cells slots pc' lv' st S) : Go G l R Tm M n cells slots pc lv (.long x :: st) S := by
  subst hp
  subst hv
  intro p e s m args below meth c H locs ls C hn hS hW hl
  exact lv_lstore C.1 C.2.1 hd hl hi (by rw [am_filterL]; rfl) (fun ls' hl' => k p e s m args below meth c H locs ls' C hn hS hW hl')

theorem Go.iinc {i : Nat} {d : Int} {x : Int32} (j : Nat) (pc' : Nat) (y : Int32) (lv' : List (Nat × Value)) (hp : pc + 3 = pc') (hd : decode M.1 pc = .ok (.iinc i d, 3)) (hj : lv[j]? = some (i, .int x)) (hy : x + Int32.ofInt d = y) (hi : i < M.2.1) (hv : (i, Value.int y) :: lv.filter (fun q => !(q.1 == i) && !(q.1 + 1 == i && q.2.category == 2)) = lv') (k : Go G l R Tm M n cells slots pc' lv' st S) : Go G l R Tm M n cells slots pc lv st S := by
  subst hp
  subst hv
  intro p e s m args below meth c H locs ls C hn hS hW hl
  exact lv_iinc C.1 C.2.1 hd hl (k := j) (by rw [List.getElem?_map, hj]; rfl) hy hi (by rw [am_filter]; rfl) (fun ls' hl' => k p e s m args below meth c H locs ls' C hn hS hW hl')

theorem Go.iconst {z : Int} (v : Int32) (pc' : Nat) (hp : pc + 1 = pc') (hd : decode M.1 pc = .ok (.iconst z, 1)) (hv : Int32.ofInt z = v) (k : Go G l R Tm M n cells slots pc' lv (.int v :: st) S) : Go G l R Tm M n cells slots pc lv (st) S := by
  subst hp
  intro p e s m args below meth c H locs ls C hn hS hW hl
  exact lv_iconst C.1 C.2.1 hd hv (k p e s m args below meth c H locs ls C hn hS hW hl)

theorem Go.bipush {z : Int} (v : Int32) (pc' : Nat) (hp : pc + 2 = pc') (hd : decode M.1 pc = .ok (.bipush z, 2)) (hv : (Int8.ofInt z).toInt32 = v) (k : Go G l R Tm M n cells slots pc' lv (.int v :: st) S) : Go G l R Tm M n cells slots pc lv (st) S := by
  subst hp
  intro p e s m args below meth c H locs ls C hn hS hW hl
  exact lv_bipush C.1 C.2.1 hd hv (k p e s m args below meth c H locs ls C hn hS hW hl)

theorem Go.sipush {z : Int} (v : Int32) (pc' : Nat) (hp : pc + 3 = pc') (hd : decode M.1 pc = .ok (.sipush z, 3)) (hv : (Int16.ofInt z).toInt32 = v) (k : Go G l R Tm M n cells slots pc' lv (.int v :: st) S) : Go G l R Tm M n cells slots pc lv (st) S := by
  subst hp
  intro p e s m args below meth c H locs ls C hn hS hW hl
  exact lv_sipush C.1 C.2.1 hd hv (k p e s m args below meth c H locs ls C hn hS hW hl)

theorem Go.lconst {z : Fin 2} (v : Int64) (pc' : Nat) (hp : pc + 1 = pc') (hd : decode M.1 pc = .ok (.lconst z, 1)) (hv : Int64.ofNat (z : Nat) = v) (k : Go G l R Tm M n cells slots pc' lv (.long v :: st) S) : Go G l R Tm M n cells slots pc lv (st) S := by
  subst hp
  intro p e s m args below meth c H locs ls C hn hS hW hl
  exact lv_lconst C.1 C.2.1 hd hv (k p e s m args below meth c H locs ls C hn hS hW hl)

theorem Go.ldc {ix : Nat} (v : Int32) (pc' : Nat) (hp : pc + 2 = pc') (hd : decode M.1 pc = .ok (.ldc ix, 2)) (hw : Cond.constant M.2.2.2.1 ix v ∈ lw_g) (k : Go G l R Tm M n cells slots pc' lv (.int v :: st) S) : Go G l R Tm M n cells slots pc lv (st) S := by
  subst hp
  intro p e s m args below meth c H locs ls C hn hS hW hl
  exact lv_ldc C.1 C.2.1 C.2.2.2.2.1 (C.2.2.2.2.2.2.2.1 _ hw) hd (k p e s m args below meth c H locs ls C hn hS hW hl)

theorem Go.ldcw {ix : Nat} (v : Int32) (pc' : Nat) (hp : pc + 3 = pc') (hd : decode M.1 pc = .ok (.ldc_w ix, 3)) (hw : Cond.constant M.2.2.2.1 ix v ∈ lw_g) (k : Go G l R Tm M n cells slots pc' lv (.int v :: st) S) : Go G l R Tm M n cells slots pc lv (st) S := by
  subst hp
  intro p e s m args below meth c H locs ls C hn hS hW hl
  exact lv_ldcw C.1 C.2.1 C.2.2.2.2.1 (C.2.2.2.2.2.2.2.1 _ hw) hd (k p e s m args below meth c H locs ls C hn hS hW hl)

theorem Go.ldc2 {ix : Nat} (v : Int64) (pc' : Nat) (hp : pc + 3 = pc') (hd : decode M.1 pc = .ok (.ldc2_w ix, 3)) (hw : Cond.constantLong M.2.2.2.1 ix v ∈ lw_g) (k : Go G l R Tm M n cells slots pc' lv (.long v :: st) S) : Go G l R Tm M n cells slots pc lv (st) S := by
  subst hp
  intro p e s m args below meth c H locs ls C hn hS hW hl
  exact lv_ldc2 C.1 C.2.1 C.2.2.2.2.1 (C.2.2.2.2.2.2.2.1 _ hw) hd (k p e s m args below meth c H locs ls C hn hS hW hl)

theorem Go.iadd {x y : Int32} (pc' : Nat) (hp : pc + 1 = pc') (hd : decode M.1 pc = .ok (.iadd, 1)) (k : Go G l R Tm M n cells slots pc' lv (.int (x + y) :: st) S) : Go G l R Tm M n cells slots pc lv (.int y :: .int x :: st) S := by
  subst hp
  intro p e s m args below meth c H locs ls C hn hS hW hl
  exact lv_iadd C.1 C.2.1 hd (k p e s m args below meth c H locs ls C hn hS hW hl)

theorem Go.isub {x y : Int32} (pc' : Nat) (hp : pc + 1 = pc') (hd : decode M.1 pc = .ok (.isub, 1)) (k : Go G l R Tm M n cells slots pc' lv (.int (x - y) :: st) S) : Go G l R Tm M n cells slots pc lv (.int y :: .int x :: st) S := by
  subst hp
  intro p e s m args below meth c H locs ls C hn hS hW hl
  exact lv_isub C.1 C.2.1 hd (k p e s m args below meth c H locs ls C hn hS hW hl)

theorem Go.imul {x y : Int32} (pc' : Nat) (hp : pc + 1 = pc') (hd : decode M.1 pc = .ok (.imul, 1)) (k : Go G l R Tm M n cells slots pc' lv (.int (x * y) :: st) S) : Go G l R Tm M n cells slots pc lv (.int y :: .int x :: st) S := by
  subst hp
  intro p e s m args below meth c H locs ls C hn hS hW hl
  exact lv_imul C.1 C.2.1 hd (k p e s m args below meth c H locs ls C hn hS hW hl)

theorem Go.iand {x y : Int32} (pc' : Nat) (hp : pc + 1 = pc') (hd : decode M.1 pc = .ok (.iand, 1)) (k : Go G l R Tm M n cells slots pc' lv (.int (x &&& y) :: st) S) : Go G l R Tm M n cells slots pc lv (.int y :: .int x :: st) S := by
  subst hp
  intro p e s m args below meth c H locs ls C hn hS hW hl
  exact lv_iand C.1 C.2.1 hd (k p e s m args below meth c H locs ls C hn hS hW hl)

theorem Go.ior {x y : Int32} (pc' : Nat) (hp : pc + 1 = pc') (hd : decode M.1 pc = .ok (.ior, 1)) (k : Go G l R Tm M n cells slots pc' lv (.int (x ||| y) :: st) S) : Go G l R Tm M n cells slots pc lv (.int y :: .int x :: st) S := by
  subst hp
  intro p e s m args below meth c H locs ls C hn hS hW hl
  exact lv_ior C.1 C.2.1 hd (k p e s m args below meth c H locs ls C hn hS hW hl)

theorem Go.ixor {x y : Int32} (pc' : Nat) (hp : pc + 1 = pc') (hd : decode M.1 pc = .ok (.ixor, 1)) (k : Go G l R Tm M n cells slots pc' lv (.int (x ^^^ y) :: st) S) : Go G l R Tm M n cells slots pc lv (.int y :: .int x :: st) S := by
  subst hp
  intro p e s m args below meth c H locs ls C hn hS hW hl
  exact lv_ixor C.1 C.2.1 hd (k p e s m args below meth c H locs ls C hn hS hW hl)

theorem Go.ishl {x y : Int32} (pc' : Nat) (hp : pc + 1 = pc') (hd : decode M.1 pc = .ok (.ishl, 1)) (k : Go G l R Tm M n cells slots pc' lv (.int (x <<< (y &&& 31)) :: st) S) : Go G l R Tm M n cells slots pc lv (.int y :: .int x :: st) S := by
  subst hp
  intro p e s m args below meth c H locs ls C hn hS hW hl
  exact lv_ishl C.1 C.2.1 hd (k p e s m args below meth c H locs ls C hn hS hW hl)

theorem Go.ishr {x y : Int32} (pc' : Nat) (hp : pc + 1 = pc') (hd : decode M.1 pc = .ok (.ishr, 1)) (k : Go G l R Tm M n cells slots pc' lv (.int (x >>> (y &&& 31)) :: st) S) : Go G l R Tm M n cells slots pc lv (.int y :: .int x :: st) S := by
  subst hp
  intro p e s m args below meth c H locs ls C hn hS hW hl
  exact lv_ishr C.1 C.2.1 hd (k p e s m args below meth c H locs ls C hn hS hW hl)

theorem Go.iushr {x y : Int32} (pc' : Nat) (hp : pc + 1 = pc') (hd : decode M.1 pc = .ok (.iushr, 1)) (k : Go G l R Tm M n cells slots pc' lv (.int (x.toUInt32 >>> (y.toUInt32 &&& Int32.toUInt32 31)).toInt32 :: st) S) : Go G l R Tm M n cells slots pc lv (.int y :: .int x :: st) S := by
  subst hp
  intro p e s m args below meth c H locs ls C hn hS hW hl
  exact lv_iushr C.1 C.2.1 hd rfl (k p e s m args below meth c H locs ls C hn hS hW hl)

theorem Go.idiv {x y : Int32} (pc' : Nat) (hp : pc + 1 = pc') (hd : decode M.1 pc = .ok (.idiv, 1)) (h0 : ¬ y = 0) (k : Go G l R Tm M n cells slots pc' lv (.int (x / y) :: st) S) : Go G l R Tm M n cells slots pc lv (.int y :: .int x :: st) S := by
  subst hp
  intro p e s m args below meth c H locs ls C hn hS hW hl
  exact lv_idiv C.1 C.2.1 hd h0 (k p e s m args below meth c H locs ls C hn hS hW hl)

theorem Go.irem {x y : Int32} (pc' : Nat) (hp : pc + 1 = pc') (hd : decode M.1 pc = .ok (.irem, 1)) (h0 : ¬ y = 0) (k : Go G l R Tm M n cells slots pc' lv (.int (x - x / y * y) :: st) S) : Go G l R Tm M n cells slots pc lv (.int y :: .int x :: st) S := by
  subst hp
  intro p e s m args below meth c H locs ls C hn hS hW hl
  exact lv_irem C.1 C.2.1 hd h0 (k p e s m args below meth c H locs ls C hn hS hW hl)

theorem Go.ladd {x y : Int64} (pc' : Nat) (hp : pc + 1 = pc') (hd : decode M.1 pc = .ok (.ladd, 1)) (k : Go G l R Tm M n cells slots pc' lv (.long (x + y) :: st) S) : Go G l R Tm M n cells slots pc lv (.long y :: .long x :: st) S := by
  subst hp
  intro p e s m args below meth c H locs ls C hn hS hW hl
  exact lv_ladd C.1 C.2.1 hd (k p e s m args below meth c H locs ls C hn hS hW hl)

theorem Go.lsub {x y : Int64} (pc' : Nat) (hp : pc + 1 = pc') (hd : decode M.1 pc = .ok (.lsub, 1)) (k : Go G l R Tm M n cells slots pc' lv (.long (x - y) :: st) S) : Go G l R Tm M n cells slots pc lv (.long y :: .long x :: st) S := by
  subst hp
  intro p e s m args below meth c H locs ls C hn hS hW hl
  exact lv_lsub C.1 C.2.1 hd (k p e s m args below meth c H locs ls C hn hS hW hl)

theorem Go.lmul {x y : Int64} (pc' : Nat) (hp : pc + 1 = pc') (hd : decode M.1 pc = .ok (.lmul, 1)) (k : Go G l R Tm M n cells slots pc' lv (.long (x * y) :: st) S) : Go G l R Tm M n cells slots pc lv (.long y :: .long x :: st) S := by
  subst hp
  intro p e s m args below meth c H locs ls C hn hS hW hl
  exact lv_lmul C.1 C.2.1 hd (k p e s m args below meth c H locs ls C hn hS hW hl)

theorem Go.ldiv {x y : Int64} (pc' : Nat) (hp : pc + 1 = pc') (hd : decode M.1 pc = .ok (.ldiv, 1)) (h0 : ¬ y = 0) (k : Go G l R Tm M n cells slots pc' lv (.long (x / y) :: st) S) : Go G l R Tm M n cells slots pc lv (.long y :: .long x :: st) S := by
  subst hp
  intro p e s m args below meth c H locs ls C hn hS hW hl
  exact lv_ldiv C.1 C.2.1 hd h0 (k p e s m args below meth c H locs ls C hn hS hW hl)

theorem Go.lrem {x y : Int64} (pc' : Nat) (hp : pc + 1 = pc') (hd : decode M.1 pc = .ok (.lrem, 1)) (h0 : ¬ y = 0) (k : Go G l R Tm M n cells slots pc' lv (.long (x - x / y * y) :: st) S) : Go G l R Tm M n cells slots pc lv (.long y :: .long x :: st) S := by
  subst hp
  intro p e s m args below meth c H locs ls C hn hS hW hl
  exact lv_lrem C.1 C.2.1 hd h0 (k p e s m args below meth c H locs ls C hn hS hW hl)

theorem Go.ineg {x : Int32} (pc' : Nat) (hp : pc + 1 = pc') (hd : decode M.1 pc = .ok (.ineg, 1)) (k : Go G l R Tm M n cells slots pc' lv (.int (-x) :: st) S) : Go G l R Tm M n cells slots pc lv (.int x :: st) S := by
  subst hp
  intro p e s m args below meth c H locs ls C hn hS hW hl
  exact lv_ineg C.1 C.2.1 hd (k p e s m args below meth c H locs ls C hn hS hW hl)

theorem Go.i2l {x : Int32} (pc' : Nat) (hp : pc + 1 = pc') (hd : decode M.1 pc = .ok (.i2l, 1)) (k : Go G l R Tm M n cells slots pc' lv (.long x.toInt64 :: st) S) : Go G l R Tm M n cells slots pc lv (.int x :: st) S := by
  subst hp
  intro p e s m args below meth c H locs ls C hn hS hW hl
  exact lv_i2l C.1 C.2.1 hd rfl (k p e s m args below meth c H locs ls C hn hS hW hl)

theorem Go.l2i {x : Int64} (pc' : Nat) (hp : pc + 1 = pc') (hd : decode M.1 pc = .ok (.l2i, 1)) (k : Go G l R Tm M n cells slots pc' lv (.int x.toInt32 :: st) S) : Go G l R Tm M n cells slots pc lv (.long x :: st) S := by
  subst hp
  intro p e s m args below meth c H locs ls C hn hS hW hl
  exact lv_l2i C.1 C.2.1 hd rfl (k p e s m args below meth c H locs ls C hn hS hW hl)

theorem Go.i2b {x : Int32} (pc' : Nat) (hp : pc + 1 = pc') (hd : decode M.1 pc = .ok (.i2b, 1)) (k : Go G l R Tm M n cells slots pc' lv (.int x.toInt8.toInt32 :: st) S) : Go G l R Tm M n cells slots pc lv (.int x :: st) S := by
  subst hp
  intro p e s m args below meth c H locs ls C hn hS hW hl
  exact lv_i2b C.1 C.2.1 hd rfl (k p e s m args below meth c H locs ls C hn hS hW hl)

theorem Go.lcmp {x y : Int64} (pc' : Nat) (hp : pc + 1 = pc') (hd : decode M.1 pc = .ok (.lcmp, 1)) (k : Go G l R Tm M n cells slots pc' lv (.int (lg_cmp x y) :: st) S) : Go G l R Tm M n cells slots pc lv (.long y :: .long x :: st) S := by
  subst hp
  intro p e s m args below meth c H locs ls C hn hS hW hl
  exact W.lcmp C.1 C.2.1 hd (k p e s m args below meth c H locs ls C hn hS hW hl)

theorem Go.dup {v : Value} (pc' : Nat) (hp : pc + 1 = pc') (hd : decode M.1 pc = .ok (.dup, 1)) (hc : v.category = 1) (k : Go G l R Tm M n cells slots pc' lv (v :: v :: st) S) : Go G l R Tm M n cells slots pc lv (v :: st) S := by
  subst hp
  intro p e s m args below meth c H locs ls C hn hS hW hl
  exact lv_dup C.1 C.2.1 hd ((cV_cat G v).trans hc) (k p e s m args below meth c H locs ls C hn hS hW hl)

theorem Go.dup2 {v w : Value} (pc' : Nat) (hp : pc + 1 = pc') (hd : decode M.1 pc = .ok (.dup2, 1)) (hc : v.category = 1) (hc2 : w.category = 1) (k : Go G l R Tm M n cells slots pc' lv (v :: w :: v :: w :: st) S) : Go G l R Tm M n cells slots pc lv (v :: w :: st) S := by
  subst hp
  intro p e s m args below meth c H locs ls C hn hS hW hl
  exact lv_dup2_11 C.1 C.2.1 hd ((cV_cat G v).trans hc) ((cV_cat G w).trans hc2) (k p e s m args below meth c H locs ls C hn hS hW hl)

theorem Go.icmp_eq {x y : Int32} {off : Int} (tgt pc' : Nat) (hp : pc + 3 = pc') (hd : decode M.1 pc = .ok (.if_icmp .eq off, 3)) (ht : (pc : Int) + off = (tgt : Int)) (kt : x = y → Go G l R Tm M n cells slots tgt lv st S) (kf : ¬ x = y → Go G l R Tm M n cells slots pc' lv st S) : Go G l R Tm M n cells slots pc lv (.int y :: .int x :: st) S := by
  subst hp
  intro p e s m args below meth c H locs ls C hn hS hW hl
  exact lv_icmp_eq C.1 C.2.1 hd ht (fun h => kt h p e s m args below meth c H locs ls C hn hS hW hl) (fun h => kf h p e s m args below meth c H locs ls C hn hS hW hl)

theorem Go.icmp_ne {x y : Int32} {off : Int} (tgt pc' : Nat) (hp : pc + 3 = pc') (hd : decode M.1 pc = .ok (.if_icmp .ne off, 3)) (ht : (pc : Int) + off = (tgt : Int)) (kt : ¬ x = y → Go G l R Tm M n cells slots tgt lv st S) (kf : x = y → Go G l R Tm M n cells slots pc' lv st S) : Go G l R Tm M n cells slots pc lv (.int y :: .int x :: st) S := by
  subst hp
  intro p e s m args below meth c H locs ls C hn hS hW hl
  exact lv_icmp_ne C.1 C.2.1 hd ht (fun h => kt h p e s m args below meth c H locs ls C hn hS hW hl) (fun h => kf h p e s m args below meth c H locs ls C hn hS hW hl)

theorem Go.icmp_lt {x y : Int32} {off : Int} (tgt pc' : Nat) (hp : pc + 3 = pc') (hd : decode M.1 pc = .ok (.if_icmp .lt off, 3)) (ht : (pc : Int) + off = (tgt : Int)) (kt : x < y → Go G l R Tm M n cells slots tgt lv st S) (kf : ¬ x < y → Go G l R Tm M n cells slots pc' lv st S) : Go G l R Tm M n cells slots pc lv (.int y :: .int x :: st) S := by
  subst hp
  intro p e s m args below meth c H locs ls C hn hS hW hl
  exact lv_icmp_lt C.1 C.2.1 hd ht (fun h => kt h p e s m args below meth c H locs ls C hn hS hW hl) (fun h => kf h p e s m args below meth c H locs ls C hn hS hW hl)

theorem Go.icmp_ge {x y : Int32} {off : Int} (tgt pc' : Nat) (hp : pc + 3 = pc') (hd : decode M.1 pc = .ok (.if_icmp .ge off, 3)) (ht : (pc : Int) + off = (tgt : Int)) (kt : y ≤ x → Go G l R Tm M n cells slots tgt lv st S) (kf : ¬ y ≤ x → Go G l R Tm M n cells slots pc' lv st S) : Go G l R Tm M n cells slots pc lv (.int y :: .int x :: st) S := by
  subst hp
  intro p e s m args below meth c H locs ls C hn hS hW hl
  exact lv_icmp_ge C.1 C.2.1 hd ht (fun h => kt h p e s m args below meth c H locs ls C hn hS hW hl) (fun h => kf h p e s m args below meth c H locs ls C hn hS hW hl)

theorem Go.icmp_gt {x y : Int32} {off : Int} (tgt pc' : Nat) (hp : pc + 3 = pc') (hd : decode M.1 pc = .ok (.if_icmp .gt off, 3)) (ht : (pc : Int) + off = (tgt : Int)) (kt : y < x → Go G l R Tm M n cells slots tgt lv st S) (kf : ¬ y < x → Go G l R Tm M n cells slots pc' lv st S) : Go G l R Tm M n cells slots pc lv (.int y :: .int x :: st) S := by
  subst hp
  intro p e s m args below meth c H locs ls C hn hS hW hl
  exact lv_icmp_gt C.1 C.2.1 hd ht (fun h => kt h p e s m args below meth c H locs ls C hn hS hW hl) (fun h => kf h p e s m args below meth c H locs ls C hn hS hW hl)

theorem Go.icmp_le {x y : Int32} {off : Int} (tgt pc' : Nat) (hp : pc + 3 = pc') (hd : decode M.1 pc = .ok (.if_icmp .le off, 3)) (ht : (pc : Int) + off = (tgt : Int)) (kt : x ≤ y → Go G l R Tm M n cells slots tgt lv st S) (kf : ¬ x ≤ y → Go G l R Tm M n cells slots pc' lv st S) : Go G l R Tm M n cells slots pc lv (.int y :: .int x :: st) S := by
  subst hp
  intro p e s m args below meth c H locs ls C hn hS hW hl
  exact lv_icmp_le C.1 C.2.1 hd ht (fun h => kt h p e s m args below meth c H locs ls C hn hS hW hl) (fun h => kf h p e s m args below meth c H locs ls C hn hS hW hl)

theorem Go.if_eq {x : Int32} {off : Int} (tgt pc' : Nat) (hp : pc + 3 = pc') (hd : decode M.1 pc = .ok (.ifCond .eq off, 3)) (ht : (pc : Int) + off = (tgt : Int)) (kt : x = 0 → Go G l R Tm M n cells slots tgt lv st S) (kf : ¬ x = 0 → Go G l R Tm M n cells slots pc' lv st S) : Go G l R Tm M n cells slots pc lv (.int x :: st) S := by
  subst hp
  intro p e s m args below meth c H locs ls C hn hS hW hl
  exact lv_if_eq C.1 C.2.1 hd ht (fun h => kt h p e s m args below meth c H locs ls C hn hS hW hl) (fun h => kf h p e s m args below meth c H locs ls C hn hS hW hl)

theorem Go.if_ne {x : Int32} {off : Int} (tgt pc' : Nat) (hp : pc + 3 = pc') (hd : decode M.1 pc = .ok (.ifCond .ne off, 3)) (ht : (pc : Int) + off = (tgt : Int)) (kt : ¬ x = 0 → Go G l R Tm M n cells slots tgt lv st S) (kf : x = 0 → Go G l R Tm M n cells slots pc' lv st S) : Go G l R Tm M n cells slots pc lv (.int x :: st) S := by
  subst hp
  intro p e s m args below meth c H locs ls C hn hS hW hl
  exact lv_if_ne C.1 C.2.1 hd ht (fun h => kt h p e s m args below meth c H locs ls C hn hS hW hl) (fun h => kf h p e s m args below meth c H locs ls C hn hS hW hl)

theorem Go.if_lt {x : Int32} {off : Int} (tgt pc' : Nat) (hp : pc + 3 = pc') (hd : decode M.1 pc = .ok (.ifCond .lt off, 3)) (ht : (pc : Int) + off = (tgt : Int)) (kt : x < 0 → Go G l R Tm M n cells slots tgt lv st S) (kf : ¬ x < 0 → Go G l R Tm M n cells slots pc' lv st S) : Go G l R Tm M n cells slots pc lv (.int x :: st) S := by
  subst hp
  intro p e s m args below meth c H locs ls C hn hS hW hl
  exact lv_if_lt C.1 C.2.1 hd ht (fun h => kt h p e s m args below meth c H locs ls C hn hS hW hl) (fun h => kf h p e s m args below meth c H locs ls C hn hS hW hl)

theorem Go.if_ge {x : Int32} {off : Int} (tgt pc' : Nat) (hp : pc + 3 = pc') (hd : decode M.1 pc = .ok (.ifCond .ge off, 3)) (ht : (pc : Int) + off = (tgt : Int)) (kt : 0 ≤ x → Go G l R Tm M n cells slots tgt lv st S) (kf : ¬ 0 ≤ x → Go G l R Tm M n cells slots pc' lv st S) : Go G l R Tm M n cells slots pc lv (.int x :: st) S := by
  subst hp
  intro p e s m args below meth c H locs ls C hn hS hW hl
  exact lv_if_ge C.1 C.2.1 hd ht (fun h => kt h p e s m args below meth c H locs ls C hn hS hW hl) (fun h => kf h p e s m args below meth c H locs ls C hn hS hW hl)

theorem Go.if_gt {x : Int32} {off : Int} (tgt pc' : Nat) (hp : pc + 3 = pc') (hd : decode M.1 pc = .ok (.ifCond .gt off, 3)) (ht : (pc : Int) + off = (tgt : Int)) (kt : 0 < x → Go G l R Tm M n cells slots tgt lv st S) (kf : ¬ 0 < x → Go G l R Tm M n cells slots pc' lv st S) : Go G l R Tm M n cells slots pc lv (.int x :: st) S := by
  subst hp
  intro p e s m args below meth c H locs ls C hn hS hW hl
  exact lv_if_gt C.1 C.2.1 hd ht (fun h => kt h p e s m args below meth c H locs ls C hn hS hW hl) (fun h => kf h p e s m args below meth c H locs ls C hn hS hW hl)

theorem Go.if_le {x : Int32} {off : Int} (tgt pc' : Nat) (hp : pc + 3 = pc') (hd : decode M.1 pc = .ok (.ifCond .le off, 3)) (ht : (pc : Int) + off = (tgt : Int)) (kt : x ≤ 0 → Go G l R Tm M n cells slots tgt lv st S) (kf : ¬ x ≤ 0 → Go G l R Tm M n cells slots pc' lv st S) : Go G l R Tm M n cells slots pc lv (.int x :: st) S := by
  subst hp
  intro p e s m args below meth c H locs ls C hn hS hW hl
  exact lv_if_le C.1 C.2.1 hd ht (fun h => kt h p e s m args below meth c H locs ls C hn hS hW hl) (fun h => kf h p e s m args below meth c H locs ls C hn hS hW hl)

theorem Go.goto {off : Int} (tgt : Nat) (hd : decode M.1 pc = .ok (.goto off, 3)) (ht : (pc : Int) + off = (tgt : Int)) (k : Go G l R Tm M n cells slots tgt lv st S) : Go G l R Tm M n cells slots pc lv st S := by
  intro p e s m args below meth c H locs ls C hn hS hW hl
  exact lv_goto C.1 C.2.1 hd ht (k p e s m args below meth c H locs ls C hn hS hW hl)

theorem Go.tin {dflt lo hi : Int} {offs : Array Int} {len : Nat} {x : Int32} {off : Int} (v : Int32) (tgt : Nat) (hx : x = v) (hd : decode M.1 pc = .ok (.tableswitch dflt lo hi offs, len)) (h1 : ¬ v.toInt < lo) (h2 : ¬ hi < v.toInt) (ho : offs[(v.toInt - lo).toNat]? = some off) (ht : (pc : Int) + off = (tgt : Int)) (k : Go G l R Tm M n cells slots tgt lv st S) : Go G l R Tm M n cells slots pc lv (.int x :: st) S := by
  subst hx
  intro p e s m args below meth c H locs ls C hn hS hW hl
  exact lv_tableIn C.1 C.2.1 hd h1 h2 ho ht (k p e s m args below meth c H locs ls C hn hS hW hl)

theorem Go.tout {dflt lo hi : Int} {offs : Array Int} {len : Nat} {x : Int32} (tgt : Nat) (hd : decode M.1 pc = .ok (.tableswitch dflt lo hi offs, len)) (h : x.toInt < lo ∨ hi < x.toInt) (ht : (pc : Int) + dflt = (tgt : Int)) (k : Go G l R Tm M n cells slots tgt lv st S) : Go G l R Tm M n cells slots pc lv (.int x :: st) S := by
  intro p e s m args below meth c H locs ls C hn hS hW hl
  exact lv_tableOut C.1 C.2.1 hd h ht (k p e s m args below meth c H locs ls C hn hS hW hl)

/-- fewer locals, in another order -/
theorem Go.sub (ks : List Nat) (lv' : List (Nat × Value)) (h : lv_pick lv ks = lv') (k : Go G l R Tm M n cells slots pc lv' st S) : Go G l R Tm M n cells slots pc lv st S := by
  intro p e s m args below meth c H locs ls C hn hS hW hl
  refine k p e s m args below meth c H locs ls C hn hS hW (lv_sub hl ks ?_)
  subst h
  simp [lv_pick, List.map_filterMap, Function.comp_def]

end GO
end
section
/-! Rows of 'Go' over the heap: fields, arrays. -/
theorem w_size {p : Program} {l : Launch} {e : Env} {R : Room} {s : State} {m : MethodId} {args : Array Value} {below : List Frame} {meth : Method} {c : Code} {H : Heap} {locs : List Loc} {cells slots : Nat} {Q : State → Prop} {g : JFrame} (k : H.size ≤ s.heap.size + cells → W p l e R s m args below meth c H locs cells slots Q g) : W p l e R s m args below meth c H locs cells slots Q g :=
  fun T hT X => k (by rw [← hT]; exact X.same.2.2.1) T hT X
def aFl (own : String) (ix ci j : Nat) : Prop := ∃ (C : String) (T : u_T) (N : Nat), vwCl[ci]? = some (C, T, N) ∧ j < N ∧ (∀ w ∈ u_ws C T N, w ∈ lw_g) ∧ (Cond.fieldLink own ix (T j).1 (T j).2.1 (T j).2.2.1 ∈ lw_g ∨ ∃ host, Cond.fieldLinkNest own ix (T j).1 (T j).2.1 (T j).2.2.1 host ∈ lw_n)
def aFp (own : String) (ix ci j : Nat) (ty : FieldType) (fin : Bool) : Prop := ∃ (C : String) (T : u_T) (N : Nat) (ty0 : Nat → FieldType), vwCl[ci]? = some (C, T, N) ∧ j < N ∧ (∀ w ∈ u_ws C T N, w ∈ lw_g) ∧ (Cond.fieldLink own ix (T j).1 (T j).2.1 (T j).2.2.1 ∈ lw_g ∨ ((∃ host, Cond.fieldLinkNest own ix (T j).1 (T j).2.1 (T j).2.2.1 host ∈ lw_n) ∧ fin = false)) ∧ (∀ k, k < N → parseFieldDescriptor (T k).2.2.1 = some (ty0 k)) ∧ (∀ a, a < N → ∀ b, b < N → a ≠ b → (T a).2.1 ≠ (T b).2.1) ∧ (T j).2.2.2 = fin ∧ parseFieldDescriptor (T j).2.2.1 = some ty ∧ (fin = true → (T j).1 = own)
theorem am_cE_obj {G : aG} {S : aSt} {k tag : Nat} (h : (SH k).1 = tag) (ht : tag < 7) : am_cE G S k = .inr (tag, am_fs G S k) := by
  unfold am_cE
  rw [h]
  rcases tag with _ | _ | _ | _ | _ | _ | _ | t <;> first | rfl | omega
theorem am_cE_int {G : aG} {S : aSt} {k : Nat} (h : (SH k).1 = 7) : am_cE G S k = .inl ((gC G).1, (SH k).2, .inl (S.1 k)) := by simp [am_cE, h]
theorem am_cE_bool {G : aG} {S : aSt} {k : Nat} (h : (SH k).1 = 8) : am_cE G S k = .inl ((gC G).2.1, (SH k).2, .inl (S.1 k)) := by simp [am_cE, h]
theorem am_cE_rows {G : aG} {S : aSt} {k : Nat} (h : (SH k).1 = 9) : am_cE G S k = .inl ((gC G).2.2.1, (SH k).2, .inr (.inr (.inr (.inr (fun i => (S.2.2 k i).map (qa G)))))) := by simp [am_cE, h]
theorem am_cE_std {G : aG} {S : aSt} {k : Nat} (h : (SH k).1 = 10) : am_cE G S k = .inl ((gC G).2.2.2, (SH k).2, .inr (.inr (.inr (.inr (fun i => (S.2.2 k i).map (qa G)))))) := by simp [am_cE, h]
theorem vw_lt {ci : Nat} {q : vw_C} (h : vwCl[ci]? = some q) : ci < 7 := (List.getElem?_eq_some_iff.mp h).1
theorem am_fs_get {G : aG} {S : aSt} {k tag j ty : Nat} (h : (SH k).1 = tag) (hj : (ftys tag)[j]? = some ty) : (am_fs G S k)[j]? = some (am_fv G S k j ty) := by
  have hl := (List.getElem?_eq_some_iff.mp hj).1
  unfold am_fs
  rw [h, List.getElem?_map, List.getElem?_range hl]
  show some (am_fv G S k j ((ftys tag).getD j 0)) = _
  rw [List.getD_eq_getElem?_getD, hj]
  rfl
theorem am_fs_len {G : aG} {S : aSt} {k tag j ty : Nat} (h : (SH k).1 = tag) (hj : (ftys tag)[j]? = some ty) : j < (am_fs G S k).length := by
  have hl := (List.getElem?_eq_some_iff.mp hj).1
  unfold am_fs
  rw [h]
  simpa using hl
theorem am_fs_set {G : aG} {S S' : aSt} {k tag j ty : Nat} {v : Value} (h : (SH k).1 = tag) (hj : (ftys tag)[j]? = some ty) (hv : am_fv G S' k j ty = v) (ho : ∀ i t, i ≠ j → am_fv G S' k i t = am_fv G S k i t) : (am_fs G S k).set j v = am_fs G S' k := by
  have hl := (List.getElem?_eq_some_iff.mp hj).1
  apply List.ext_getElem?
  intro i
  by_cases hij : i = j
  · subst hij
    rw [List.getElem?_set_self (am_fs_len h hj), am_fs_get h hj, hv]
  · rw [List.getElem?_set_ne (Ne.symm hij)]
    unfold am_fs
    rw [List.getElem?_map, List.getElem?_map]
    by_cases hi : i < (ftys (SH k).1).length
    · rw [List.getElem?_range hi]
      show some (am_fv G S k i _) = some (am_fv G S' k i _)
      rw [ho i _ hij]
    · rw [List.getElem?_eq_none (by simpa using hi)]
      rfl
theorem am_old {G : aG} {s : State} {H : Heap} {locs : List Loc} (h : ∀ a, a < gB G → s.heap[a]? = G.1[a]?) (hS : va_S (gA G) s.heap H locs) : ∀ a, a < gB G → H[a]? = G.1[a]? := by
  intro a ha
  have h1 := h a ha
  by_cases hlt : a < s.heap.size
  · rw [hS.2.1 a hlt (by show ¬ gB G ≤ a; omega)]
    exact h1
  · rw [show G.1[a]? = some (G.1[a]'ha) from Array.getElem?_eq_getElem ha] at h1
    exact absurd (Array.getElem?_eq_some_iff.mp h1).1 hlt
section GH
variable {G : aG} {l : Launch} {R : Room} {Tm : List Frame → Array Value → State → State → Prop} {M : aM} {n cells slots pc : Nat} {lv : List (Nat × Value)} {st : List Value} {S : aSt}
theorem Go.getV {ix k tag j ty : Nat} (pc' : Nat) (hp : pc + 3 = pc') (hd : decode M.1 pc = .ok (.getfield ix, 3)) (hf : aFl M.2.2.2.1 ix tag j) (hj : (ftys tag)[j]? = some ty) (hk : k < n) (ht : (SH k).1 = tag) (v : Value) (hv : am_fv G S k j ty = cV G v) (kk : Go G l R Tm M n cells slots pc' lv (v :: st) S) : Go G l R Tm M n cells slots pc lv (.ref k :: st) S := by
  subst hp
  intro p e s m args below meth c H locs ls C hn hS hW hl
  obtain ⟨Cn, T, N, hc, hjN, hws, hlk⟩ := hf
  have hq : qa G k = gB G + k := qa_own (by have := hW.1; omega)
  have he : (aws G n S)[k]? = some (gB G + k, .inr (tag, am_fs G S k)) := by rw [aws_get hk, am_cE_obj ht (vw_lt hc)]
  have hfs := am_fs_get (G := G) (S := S) ht hj
  rw [hv] at hfs
  have hgo := kk p e s m args below meth c H locs ls C hn hS hW hl
  show W p l e R s m args below meth c H locs cells slots (Tm below args s) (F0 m pc ls (.ref (qa G k) :: st.map (cV G)))
  rw [hq]
  rcases hlk with hlk | ⟨host, hlk⟩
  · exact va_get C.1 C.2.1 C.2.2.2.2.2.2.2.1 hws C.2.2.2.2.1 C.2.2.2.2.2.2.2.2.1.1 hW.2.1 k he hc j hjN (C.2.2.2.2.2.2.2.1 _ hlk) (fun _ h9 => h9) hfs hd hgo
  · exact va_getN C.1 C.2.1 C.2.2.2.2.2.2.2.1 hws C.2.2.2.2.1 C.2.2.2.2.2.2.2.2.1.1 hW.2.1 k he hc j hjN (va_Nw.use rfl (C.2.2.2.2.2.2.2.2.1.2.1 _ hlk)) (fun _ h9 => h9) hfs hd hgo
theorem Go.getI {ix k tag j : Nat} (pc' : Nat) (hp : pc + 3 = pc') (hd : decode M.1 pc = .ok (.getfield ix, 3)) (hf : aFl M.2.2.2.1 ix tag j) (hj : (ftys tag)[j]? = some 0) (hk : k < n) (ht : (SH k).1 = tag) (kk : Go G l R Tm M n cells slots pc' lv (.int (S.1 k j) :: st) S) : Go G l R Tm M n cells slots pc lv (.ref k :: st) S := Go.getV pc' hp hd hf hj hk ht (.int (S.1 k j)) rfl kk
theorem Go.getL {ix k tag j : Nat} (pc' : Nat) (hp : pc + 3 = pc') (hd : decode M.1 pc = .ok (.getfield ix, 3)) (hf : aFl M.2.2.2.1 ix tag j) (hj : (ftys tag)[j]? = some 1) (hk : k < n) (ht : (SH k).1 = tag) (kk : Go G l R Tm M n cells slots pc' lv (.long (S.2.1 k j) :: st) S) : Go G l R Tm M n cells slots pc lv (.ref k :: st) S := Go.getV pc' hp hd hf hj hk ht (.long (S.2.1 k j)) rfl kk
theorem Go.getR {ix k tag j k' : Nat} (pc' : Nat) (hp : pc + 3 = pc') (hd : decode M.1 pc = .ok (.getfield ix, 3)) (hf : aFl M.2.2.2.1 ix tag j) (hj : (ftys tag)[j]? = some 2) (hk : k < n) (ht : (SH k).1 = tag) (hr : S.2.2 k j = some k') (kk : Go G l R Tm M n cells slots pc' lv (.ref k' :: st) S) : Go G l R Tm M n cells slots pc lv (.ref k :: st) S := Go.getV pc' hp hd hf hj hk ht (.ref k') (by show va_rf ((S.2.2 k j).map (qa G)) = _; rw [hr]; rfl) kk
theorem Go.putV {ix k tag j tyn : Nat} {ty : FieldType} {fin : Bool} {v : Value} (pc' : Nat) (S' : aSt) (hp : pc + 3 = pc') (hd : decode M.1 pc = .ok (.putfield ix, 3)) (hf : aFp M.2.2.2.1 ix tag j ty fin) (hj : (ftys tag)[j]? = some tyn) (hk : k < n) (ht : (SH k).1 = tag) (hnr : narrow ty (cV G v) = cV G v) (hfit : fits ty (cV G v) = true) (hfin : fin = true → M.2.2.2.2 = "<init>") (hv : am_fv G S' k j tyn = cV G v) (ho : ∀ i t, i ≠ j → am_fv G S' k i t = am_fv G S k i t) (ho2 : ∀ a, a ≠ k → am_cE G S' a = am_cE G S a) (kk : Go G l R Tm M n cells slots pc' lv st S') : Go G l R Tm M n cells slots pc lv (v :: .ref k :: st) S := by
  subst hp
  intro p e s m args below meth c H locs ls C hn hS hW hl
  obtain ⟨Cn, T, N, ty0, hc, hjN, hws, hlk, hty, hnm, hfi, hpd, hown⟩ := hf
  have hq : qa G k = gB G + k := qa_own (by have := hW.1; omega)
  have he : (aws G n S)[k]? = some (gB G + k, .inr (tag, am_fs G S k)) := by rw [aws_get hk, am_cE_obj ht (vw_lt hc)]
  have hset : (aws G n S).set k (gB G + k, .inr (tag, (am_fs G S k).set j (cV G v))) = aws G n S' := aws_set (by rw [am_cE_obj ht (vw_lt hc), am_fs_set ht hj hv ho]) ho2
  have hgo : ∀ (H1 : Heap) (locs1 : List Loc), va_P (gD G) vwCl ((aws G n S).set k (gB G + k, .inr (tag, (am_fs G S k).set j (cV G v)))) H1 → va_D (gA G) ((aws G n S).set k (gB G + k, .inr (tag, (am_fs G S k).set j (cV G v)))) → va_S (gA G) s.heap H1 locs1 → W p l e R s m args below meth c H1 locs1 cells slots (Tm below args s) (F0 m (pc + 3) ls (st.map (cV G))) := by
    intro H1 locs1 hP1 _ hS1
    rw [hset] at hP1
    exact kk p e s m args below meth c H1 locs1 ls C hn hS1 ⟨hW.1, hP1, am_old C.2.2.2.2.2.2.2.2.2 hS1⟩ hl
  show W p l e R s m args below meth c H locs cells slots (Tm below args s) (F0 m pc ls (cV G v :: .ref (qa G k) :: st.map (cV G)))
  rw [hq]
  cases fin with
  | false =>
    rcases hlk with hlk | ⟨⟨host, hlk⟩, -⟩
    · exact va_put C.1 C.2.1 C.2.2.2.2.2.2.2.1 hws ty0 hty hnm C.2.2.2.2.1 C.2.2.2.2.2.2.2.2.1.1 hW.2.1 (aws_D G n S) hS k he hc j hjN (C.2.2.2.2.2.2.2.1 _ hlk) (fun _ h9 => h9) hfi hpd hnr hfit (am_fs_len ht hj) hd hgo
    · exact va_putN C.1 C.2.1 C.2.2.2.2.2.2.2.1 hws ty0 hty hnm C.2.2.2.2.1 C.2.2.2.2.2.2.2.2.1.1 hW.2.1 (aws_D G n S) hS k he hc j hjN (va_Nw.use rfl (C.2.2.2.2.2.2.2.2.1.2.1 _ hlk)) (fun _ h9 => h9) hfi hpd hnr hfit (am_fs_len ht hj) hd hgo
  | true =>
    rcases hlk with hlk | ⟨-, h0⟩
    · exact va_putF C.1 C.2.1 C.2.2.2.2.2.2.2.1 hws ty0 hty hnm C.2.2.2.2.1 C.2.2.2.2.2.2.2.2.1.1 hW.2.1 (aws_D G n S) hS k he hc j hjN (C.2.2.2.2.2.2.2.1 _ hlk) (fun _ h9 => h9) hfi (C.2.2.2.2.2.1.trans (hfin rfl)) (hown rfl) hpd hnr hfit (am_fs_len ht hj) hd hgo
    · cases h0
theorem am_fv_ne {G : aG} {S S' : aSt} {k i t : Nat} (h1 : S'.1 k i = S.1 k i) (h2 : S'.2.1 k i = S.2.1 k i) (h3 : S'.2.2 k i = S.2.2 k i) : am_fv G S' k i t = am_fv G S k i t := by
  unfold am_fv
  rw [h1, h2, h3]
theorem Go.putI {ix k tag j : Nat} {fin : Bool} {v : Int32} (pc' : Nat) (hp : pc + 3 = pc') (hd : decode M.1 pc = .ok (.putfield ix, 3)) (hf : aFp M.2.2.2.1 ix tag j .int fin) (hj : (ftys tag)[j]? = some 0) (hk : k < n) (ht : (SH k).1 = tag) (hfin : fin = true → M.2.2.2.2 = "<init>") (kk : Go G l R Tm M n cells slots pc' lv st (stI S k j v)) : Go G l R Tm M n cells slots pc lv (.int v :: .ref k :: st) S := by
  refine Go.putV (v := .int v) pc' (stI S k j v) hp hd hf hj hk ht rfl rfl hfin ?_ (fun i t hij => am_fv_ne ?_ rfl rfl) (fun a ha => am_cE_congr (stI_ne ha) rfl rfl) kk
  · show Value.int ((stI S k j v).1 k j) = Value.int v
    rw [stI_self]
    simp [upd]
  · rw [stI_self]
    simp [upd, hij]
theorem Go.putL {ix k tag j : Nat} {fin : Bool} {v : Int64} (pc' : Nat) (hp : pc + 3 = pc') (hd : decode M.1 pc = .ok (.putfield ix, 3)) (hf : aFp M.2.2.2.1 ix tag j .long fin) (hj : (ftys tag)[j]? = some 1) (hk : k < n) (ht : (SH k).1 = tag) (hfin : fin = true → M.2.2.2.2 = "<init>") (kk : Go G l R Tm M n cells slots pc' lv st (stL S k j v)) : Go G l R Tm M n cells slots pc lv (.long v :: .ref k :: st) S := by
  refine Go.putV (v := .long v) pc' (stL S k j v) hp hd hf hj hk ht rfl rfl hfin ?_ (fun i t hij => am_fv_ne rfl ?_ rfl) (fun a ha => am_cE_congr rfl (by simp [stL, ha]) rfl) kk
  · show Value.long ((stL S k j v).2.1 k j) = Value.long v
    simp [stL, vp_updL]
  · simp [stL, vp_updL, hij]
theorem Go.putR {ix k tag j v : Nat} {ty : FieldType} {fin : Bool} (pc' : Nat) (hp : pc + 3 = pc') (hd : decode M.1 pc = .ok (.putfield ix, 3)) (hf : aFp M.2.2.2.1 ix tag j ty fin) (hty : (∃ q, ty = .object q) ∨ ∃ q, ty = .array q) (hj : (ftys tag)[j]? = some 2) (hk : k < n) (ht : (SH k).1 = tag) (hfin : fin = true → M.2.2.2.2 = "<init>") (kk : Go G l R Tm M n cells slots pc' lv st (stR S k j (some v))) : Go G l R Tm M n cells slots pc lv (.ref v :: .ref k :: st) S := by
  refine Go.putV (v := .ref v) pc' (stR S k j (some v)) hp hd hf hj hk ht ?_ ?_ hfin ?_ (fun i t hij => am_fv_ne rfl rfl ?_) (fun a ha => am_cE_congr rfl rfl (by simp [stR, ha])) kk
  · rcases hty with ⟨q, rfl⟩ | ⟨q, rfl⟩ <;> rfl
  · rcases hty with ⟨q, rfl⟩ | ⟨q, rfl⟩ <;> rfl
  · show va_rf (((stR S k j (some v)).2.2 k j).map (qa G)) = Value.ref (qa G v)
    simp [stR, va_up, va_rf]
  · simp [stR, va_up, hij]
/-! arrays -/
theorem Go.iald {k : Nat} {i : Int32} (pc' : Nat) (hp : pc + 1 = pc') (hd : decode M.1 pc = .ok (.iaload, 1)) (hk : k < n) (ht : (SH k).1 = 7) (hin : inb i (SH k).2 = true) (kk : Go G l R Tm M n cells slots pc' lv (.int (S.1 k i.toNatClampNeg) :: st) S) : Go G l R Tm M n cells slots pc lv (.int i :: .ref k :: st) S := by
  subst hp
  intro p e s m args below meth c H locs ls C hn hS hW hl
  have hq : qa G k = gB G + k := qa_own (by have := hW.1; omega)
  show W p l e R s m args below meth c H locs cells slots (Tm below args s) (F0 m pc ls (.int i :: .ref (qa G k) :: st.map (cV G)))
  rw [hq]
  exact va_iald C.1 C.2.1 C.2.2.2.2.2.2.2.2.1.1 hW.2.1 k 0 (by rw [aws_get hk, am_cE_int ht]) rfl (inb_in hin) hd (kk p e s m args below meth c H locs ls C hn hS hW hl)
theorem Go.zald {k : Nat} {i : Int32} (pc' : Nat) (hp : pc + 1 = pc') (hd : decode M.1 pc = .ok (.baload, 1)) (hk : k < n) (ht : (SH k).1 = 8) (hin : inb i (SH k).2 = true) (kk : Go G l R Tm M n cells slots pc' lv (.int (S.1 k i.toNatClampNeg) :: st) S) : Go G l R Tm M n cells slots pc lv (.int i :: .ref k :: st) S := by
  subst hp
  intro p e s m args below meth c H locs ls C hn hS hW hl
  have hq : qa G k = gB G + k := qa_own (by have := hW.1; omega)
  show W p l e R s m args below meth c H locs cells slots (Tm below args s) (F0 m pc ls (.int i :: .ref (qa G k) :: st.map (cV G)))
  rw [hq]
  exact va_zald C.1 C.2.1 C.2.2.2.2.2.2.2.2.1.1 hW.2.1 k 1 (by rw [aws_get hk, am_cE_bool ht]) rfl (inb_in hin) hd (kk p e s m args below meth c H locs ls C hn hS hW hl)
theorem Go.aaldR {k k' : Nat} {i : Int32} (pc' : Nat) (hp : pc + 1 = pc') (hd : decode M.1 pc = .ok (.aaload, 1)) (hk : k < n) (ht : (SH k).1 = 9) (hin : inb i (SH k).2 = true) (hr : S.2.2 k i.toNatClampNeg = some k') (kk : Go G l R Tm M n cells slots pc' lv (.ref k' :: st) S) : Go G l R Tm M n cells slots pc lv (.int i :: .ref k :: st) S := by
  subst hp
  intro p e s m args below meth c H locs ls C hn hS hW hl
  have hq : qa G k = gB G + k := qa_own (by have := hW.1; omega)
  show W p l e R s m args below meth c H locs cells slots (Tm below args s) (F0 m pc ls (.int i :: .ref (qa G k) :: st.map (cV G)))
  rw [hq]
  refine va_aldq C.1 C.2.1 C.2.2.2.2.2.2.2.2.1.1 hW.2.1 k 2 (by rw [aws_get hk, am_cE_rows ht]) rfl (inb_in hin) hd ?_
  rw [hr]
  exact kk p e s m args below meth c H locs ls C hn hS hW hl
theorem Go.aaldS {k k' : Nat} {i : Int32} (pc' : Nat) (hp : pc + 1 = pc') (hd : decode M.1 pc = .ok (.aaload, 1)) (hk : k < n) (ht : (SH k).1 = 10) (hin : inb i (SH k).2 = true) (hr : S.2.2 k i.toNatClampNeg = some k') (kk : Go G l R Tm M n cells slots pc' lv (.ref k' :: st) S) : Go G l R Tm M n cells slots pc lv (.int i :: .ref k :: st) S := by
  subst hp
  intro p e s m args below meth c H locs ls C hn hS hW hl
  have hq : qa G k = gB G + k := qa_own (by have := hW.1; omega)
  show W p l e R s m args below meth c H locs cells slots (Tm below args s) (F0 m pc ls (.int i :: .ref (qa G k) :: st.map (cV G)))
  rw [hq]
  refine va_aldq C.1 C.2.1 C.2.2.2.2.2.2.2.2.1.1 hW.2.1 k 3 (by rw [aws_get hk, am_cE_std ht]) rfl (inb_in hin) hd ?_
  rw [hr]
  exact kk p e s m args below meth c H locs ls C hn hS hW hl
theorem Go.iast {k : Nat} {i x : Int32} (pc' : Nat) (hp : pc + 1 = pc') (hd : decode M.1 pc = .ok (.iastore, 1)) (hk : k < n) (ht : (SH k).1 = 7) (hin : inb i (SH k).2 = true) (kk : Go G l R Tm M n cells slots pc' lv st (stI S k i.toNatClampNeg x)) : Go G l R Tm M n cells slots pc lv (.int x :: .int i :: .ref k :: st) S := by
  subst hp
  intro p e s m args below meth c H locs ls C hn hS hW hl
  have hq : qa G k = gB G + k := qa_own (by have := hW.1; omega)
  show W p l e R s m args below meth c H locs cells slots (Tm below args s) (F0 m pc ls (.int x :: .int i :: .ref (qa G k) :: st.map (cV G)))
  rw [hq]
  refine va_iast C.1 C.2.1 C.2.2.2.2.2.2.2.2.1.1 hW.2.1 (aws_D G n S) hS k 0 (by rw [aws_get hk, am_cE_int ht]) rfl (inb_in hin) hd (fun H1 locs1 hP1 _ hS1 => ?_)
  rw [aws_set (S := S) (S' := stI S k i.toNatClampNeg x) (by rw [am_cE_int ht, stI_self]) (fun a ha => am_cE_congr (stI_ne ha) rfl rfl)] at hP1
  exact kk p e s m args below meth c H1 locs1 ls C hn hS1 ⟨hW.1, hP1, am_old C.2.2.2.2.2.2.2.2.2 hS1⟩ hl
theorem Go.zast {k : Nat} {i x : Int32} (pc' : Nat) (hp : pc + 1 = pc') (hd : decode M.1 pc = .ok (.bastore, 1)) (hk : k < n) (ht : (SH k).1 = 8) (hin : inb i (SH k).2 = true) (kk : Go G l R Tm M n cells slots pc' lv st (stI S k i.toNatClampNeg (vp_nar .boolean x))) : Go G l R Tm M n cells slots pc lv (.int x :: .int i :: .ref k :: st) S := by
  subst hp
  intro p e s m args below meth c H locs ls C hn hS hW hl
  have hq : qa G k = gB G + k := qa_own (by have := hW.1; omega)
  show W p l e R s m args below meth c H locs cells slots (Tm below args s) (F0 m pc ls (.int x :: .int i :: .ref (qa G k) :: st.map (cV G)))
  rw [hq]
  refine va_zast C.1 C.2.1 C.2.2.2.2.2.2.2.2.1.1 hW.2.1 (aws_D G n S) hS k 1 (by rw [aws_get hk, am_cE_bool ht]) rfl (inb_in hin) hd (fun H1 locs1 hP1 _ hS1 => ?_)
  rw [aws_set (S := S) (S' := stI S k i.toNatClampNeg (vp_nar .boolean x)) (by rw [am_cE_bool ht, stI_self]) (fun a ha => am_cE_congr (stI_ne ha) rfl rfl)] at hP1
  exact kk p e s m args below meth c H1 locs1 ls C hn hS1 ⟨hW.1, hP1, am_old C.2.2.2.2.2.2.2.2.2 hS1⟩ hl
theorem Go.alenI {k : Nat} (pc' : Nat) (hp : pc + 1 = pc') (hd : decode M.1 pc = .ok (.arraylength, 1)) (hk : k < n) (ht : (SH k).1 = 7) (kk : Go G l R Tm M n cells slots pc' lv (.int (Int32.ofNat (SH k).2) :: st) S) : Go G l R Tm M n cells slots pc lv (.ref k :: st) S := by
  subst hp
  intro p e s m args below meth c H locs ls C hn hS hW hl
  have hq : qa G k = gB G + k := qa_own (by have := hW.1; omega)
  show W p l e R s m args below meth c H locs cells slots (Tm below args s) (F0 m pc ls (.ref (qa G k) :: st.map (cV G)))
  rw [hq]
  exact va_alen (x := ((SH k).2, .inl (S.1 k))) C.1 C.2.1 C.2.2.2.2.2.2.2.2.1.1 hW.2.1 k 0 (by rw [aws_get hk, am_cE_int ht]) rfl rfl hd (kk p e s m args below meth c H locs ls C hn hS hW hl)
theorem Go.alenR {k : Nat} (pc' : Nat) (hp : pc + 1 = pc') (hd : decode M.1 pc = .ok (.arraylength, 1)) (hk : k < n) (ht : (SH k).1 = 9) (kk : Go G l R Tm M n cells slots pc' lv (.int (Int32.ofNat (SH k).2) :: st) S) : Go G l R Tm M n cells slots pc lv (.ref k :: st) S := by
  subst hp
  intro p e s m args below meth c H locs ls C hn hS hW hl
  have hq : qa G k = gB G + k := qa_own (by have := hW.1; omega)
  show W p l e R s m args below meth c H locs cells slots (Tm below args s) (F0 m pc ls (.ref (qa G k) :: st.map (cV G)))
  rw [hq]
  exact va_alen (x := ((SH k).2, .inr (.inr (.inr (.inr (fun i => (S.2.2 k i).map (qa G))))))) C.1 C.2.1 C.2.2.2.2.2.2.2.2.1.1 hW.2.1 k 2 (by rw [aws_get hk, am_cE_rows ht]) rfl rfl hd (kk p e s m args below meth c H locs ls C hn hS hW hl)
def cpok (sp dp c : Int32) (n0 n1 : Nat) : Bool := !decide (sp < 0) && !decide (dp < 0) && !decide (c < 0) && decide (sp.toNatClampNeg + c.toNatClampNeg ≤ n0) && decide (dp.toNatClampNeg + c.toNatClampNeg ≤ n1)
theorem Go.acpy {k0 k1 ix : Nat} {sp dp c0 : Int32} (pc' : Nat) (hp : pc + 3 = pc') (hd : decode M.1 pc = .ok (.invokestatic ix, 3)) (hlk : Cond.methodLink M.2.2.2.1 ix arraycopyName ∈ lw_g) (hnat : Cond.native arraycopyName ∈ lw_g) (hstt : Cond.static arraycopyName ∈ lw_g) (hini : Cond.initialized "java/lang/System" ∈ lw_g) (hk0 : k0 < n) (ht0 : (SH k0).1 = 7) (hk1 : k1 < n) (ht1 : (SH k1).1 = 7) (hin : cpok sp dp c0 (SH k0).2 (SH k1).2 = true) (hfr : 1 ≤ R.frames) (hlo : (st.map fun v => v.category).sum + (nativeFrameWords "java/lang/System" "arraycopy" 5 + 11) ≤ R.locals) (kk : Go G l R Tm M n cells slots pc' lv st (stRow S k1 (va_cpy (S.1 k0) (S.1 k1) sp.toNatClampNeg dp.toNatClampNeg c0.toNatClampNeg))) : Go G l R Tm M n cells slots pc lv (.int c0 :: .int dp :: .ref k1 :: .int sp :: .ref k0 :: st) S := by
  subst hp
  intro p e s m args below meth c H locs ls C hn hS hW hl
  have hq : qa G k0 = gB G + k0 := qa_own (by have := hW.1; omega)
  have hq1 : qa G k1 = gB G + k1 := qa_own (by have := hW.1; omega)
  simp [cpok] at hin
  obtain ⟨⟨⟨⟨i1, i2⟩, i3⟩, i4⟩, i5⟩ := hin
  have hcat : ((st.map (cV G)).map fun v => v.category).sum = (st.map fun v => v.category).sum := by
    rw [List.map_map]
    congr 1
    apply List.map_congr_left
    intro v _
    exact cV_cat G v
  show W p l e R s m args below meth c H locs cells slots (Tm below args s) (F0 m pc ls (.int c0 :: .int dp :: .ref (qa G k1) :: .int sp :: .ref (qa G k0) :: st.map (cV G)))
  rw [hq, hq1]
  refine va_copyi C.1 C.2.1 (C.2.2.1.trans hl.1.symm) C.2.2.2.2.1 (C.2.2.2.2.2.2.2.1 _ hlk) (C.2.2.2.2.2.2.2.1 _ hnat) (C.2.2.2.2.2.2.2.1 _ hstt) (C.2.2.2.2.2.2.2.1 _ hini) C.2.2.2.2.2.2.2.2.1.1 hW.2.1 (aws_D G n S) hS k0 k1 0 0 (ty := .int) (by rw [aws_get hk0, am_cE_int ht0]) (by rw [aws_get hk1, am_cE_int ht1]) rfl rfl rfl (by simpa using i1) (by simpa using i2) (by simpa using i3) i4 i5 (fun i hi => rfl) hfr (by rw [hcat]; exact hlo) hd (fun H1 locs1 hP1 _ hS1 => ?_)
  rw [aws_set (S := S) (S' := stRow S k1 (va_cpy (S.1 k0) (S.1 k1) sp.toNatClampNeg dp.toNatClampNeg c0.toNatClampNeg)) (by rw [am_cE_int ht1]; simp [stRow]) (fun a ha => am_cE_congr (by simp [stRow, ha]) rfl rfl)] at hP1
  exact kk p e s m args below meth c H1 locs1 ls C hn hS1 ⟨hW.1, hP1, am_old C.2.2.2.2.2.2.2.2.2 hS1⟩ hl
/-! the letters -/
theorem Go.gets {ix : Nat} (pc' : Nat) (hp : pc + 3 = pc') (hd : decode M.1 pc = .ok (.getstatic ix, 3)) (hlk : Cond.fieldLink M.2.2.2.1 ix "LostQuestions$Kinds" "LETTERS" "[I" ∈ lw_g) (kk : Go G l R Tm M n cells slots pc' lv (.ref 1001 :: st) S) : Go G l R Tm M n cells slots pc lv st S := by
  subst hp
  intro p e s m args below meth c H locs ls C hn hS hW hl
  have hZ := (C.2.2.2.2.2.2.2.2.1.2.2.2.2.2.1).kept (H1 := s.heap) (fun a ha _ => C.2.2.2.2.2.2.2.2.2 a ha)
  exact va_gets C.1 C.2.1 hZ hS C.2.2.2.2.1 (C.2.2.2.2.2.2.2.1 _ hlk) (fun _ h9 => h9) hd (kk p e s m args below meth c H locs ls C hn hS hW hl)
theorem Go.ildT {i : Int32} (pc' : Nat) (hp : pc + 1 = pc') (hd : decode M.1 pc = .ok (.iaload, 1)) (hin : inb i 6 = true) (kk : Go G l R Tm M n cells slots pc' lv (.int (am_let i.toNatClampNeg) :: st) S) : Go G l R Tm M n cells slots pc lv (.int i :: .ref 1001 :: st) S := by
  subst hp
  intro p e s m args below meth c H locs ls C hn hS hW hl
  have hT := (C.2.2.2.2.2.2.2.2.1.2.2.2.2.2.2).kept (H1 := s.heap) (fun a ha _ => C.2.2.2.2.2.2.2.2.2 a ha)
  exact va_ti C.1 C.2.1 hT hS (inb_in hin) rfl hd (kk p e s m args below meth c H locs ls C hn hS hW hl)
end GH
end
section
/-! Contracts over the abstract machine; returns; calls. -/
def aQ (G : aG) (r : Option Value) (n' : Nat) (S' : aSt) : Array Value → State → Outcome → State → Prop := fun _ _ o t => o = .returned (r.map (cV G)) ∧ aW G n' S' t.heap
def TmR (G : aG) (r : Option Value) (n' : Nat) (S' : aSt) (mc ms : Nat) : List Frame → Array Value → State → State → Prop := fun below args s => MQ below (aQ G r n' S') args s mc ms (gA G)
def aPc (G : aG) (n : Nat) (S : aSt) (As : List Value) : Array Value → State → Prop := va_Pc (As.map (cV G)) (fun U => U.heap.size = gB G + n ∧ aK G U ∧ aW G n S U.heap)
def Ctr (G : aG) (l : Launch) (y : MethodName) (M : aM) (rm : Room) (n n' : Nat) (S : aSt) (As : List Value) (r : Option Value) (S' : aSt) : Prop :=
  Met l y (.code y M.1 M.2.1 M.2.2.1 :: lw_g) rm (aPc G n S As) (aQ G r n' S') rm.cells rm.slots (gA G)
theorem lg_sl_len (G : aG) (As : List Value) : (lg_sl (As.map (cV G))).length = (lg_sl As).length := by
  induction As with
  | nil => rfl
  | cons v vs ih =>
    simp only [lg_sl, List.map_cons, List.flatMap_cons, List.length_append] at ih ⊢
    rw [ih]
    congr 1
    cases v <;> rfl
theorem lv_args_map (G : aG) : ∀ (As : List Value) (i : Nat), lv_args i (As.map (cV G)) = (lv_args i As).map (cL G)
  | [], _ => rfl
  | v :: vs, i => by
    simp only [List.map_cons, lv_args, cV_cat]
    rw [lv_args_map G vs]
    rfl
theorem Ctr.of {G : aG} {l : Launch} {y : MethodName} {M : aM} {rm : Room} {n n' : Nat} {S S' : aSt} {As : List Value} {r : Option Value} (hy : plainName y.cls = true) (hc : M.2.2.2.1 = y.cls) (hm : M.2.2.2.2 = y.name) (hl : (lg_sl As).length ≤ M.2.1) (lv : List (Nat × Value)) (hlv : lv_args 0 As = lv)
    (k : Go G l rm (TmR G r n' S' rm.cells rm.slots) M n 0 0 0 lv [] S) : Ctr G l y M rm n n' S As r S' := by
  subst hlv
  refine Met.ofW (cc := M.1) (maxL := M.2.1) (ret := M.2.2.1) hy rfl ?_
  intro p e s m args below meth c s₁ B hml hv
  obtain ⟨rfl, hsz, hK, hW⟩ := hv
  have hts := atoms_spec (ws := .code y M.1 M.2.1 M.2.2.1 :: lw_g) B.pre
  have hl' := lv_entry (As.map (cV G)) (n := M.2.1) (by rw [lg_sl_len]; exact hl)
  rw [lv_args_map] at hl'
  rw [lg_entry_eq]
  exact k p e s m _ below meth c s.heap [] _ ⟨B.exec, B.bytes, hml, B.returns, by rw [hc]; exact findClass_of_methodNamed B.named, by rw [hm]; exact (name_of_methodNamed B.named B.method).1, B.notSynchronized, fun w hw => hts w (List.mem_cons_of_mem _ hw), hK, hW.2.2⟩ (by rw [hsz]; rfl) va_S.rf hW hl'
theorem aPc_blind (G : aG) (n : Nat) (S : aSt) (As : List Value) : FrameBlind (aPc G n S As) := by
  intro a U g mk q
  obtain ⟨h1, h2, h3, h4⟩ := q
  exact ⟨h1, h2, h3.moved (State.WarmedH.refl U), h4⟩
section GC
variable {G : aG} {l : Launch} {R : Room} {Tm : List Frame → Array Value → State → State → Prop} {M : aM} {n cells slots pc : Nat} {lv : List (Nat × Value)} {st : List Value} {S : aSt}
theorem Go.iret {x : Int32} (hr : M.2.2.1 = some .int) (hd : decode M.1 pc = .ok (.ireturn, 1)) : Go G l R (TmR G (some (.int x)) n S cells slots) M n cells slots pc lv [.int x] S := by
  intro p e s m args below meth c H locs ls C hn hS hW hl
  exact W.iret C.1 C.2.1 (C.2.2.2.1.trans hr) (fun t ht _ => ⟨rfl, by rw [ht]; exact hW⟩) hS.2.2 hd C.2.2.2.2.2.2.1
theorem Go.zret {x : Int32} (hr : M.2.2.1 = some .boolean) (hx : x = 0 ∨ x = 1) (hd : decode M.1 pc = .ok (.ireturn, 1)) : Go G l R (TmR G (some (.int x)) n S cells slots) M n cells slots pc lv [.int x] S := by
  intro p e s m args below meth c H locs ls C hn hS hW hl
  exact W.zret C.1 C.2.1 (C.2.2.2.1.trans hr) (by rcases hx with rfl | rfl <;> rfl) (fun t ht _ => ⟨rfl, by rw [ht]; exact hW⟩) hS.2.2 hd C.2.2.2.2.2.2.1
theorem Go.lret {x : Int64} (hr : M.2.2.1 = some .long) (hd : decode M.1 pc = .ok (.lreturn, 1)) : Go G l R (TmR G (some (.long x)) n S cells slots) M n cells slots pc lv [.long x] S := by
  intro p e s m args below meth c H locs ls C hn hS hW hl
  exact W.lret C.1 C.2.1 (C.2.2.2.1.trans hr) (fun t ht _ => ⟨rfl, by rw [ht]; exact hW⟩) hS.2.2 hd C.2.2.2.2.2.2.1
theorem Go.vret (hr : M.2.2.1 = none) (hd : decode M.1 pc = .ok (.return_, 1)) : Go G l R (TmR G none n S cells slots) M n cells slots pc lv [] S := by
  intro p e s m args below meth c H locs ls C hn hS hW hl
  exact W.vret C.1 C.2.1 (C.2.2.2.1.trans hr) (fun t ht _ => ⟨rfl, by rw [ht]; exact hW⟩) hS.2.2 hd C.2.2.2.2.2.2.1
theorem am_cat (G : aG) (st : List Value) : ((st.map (cV G)).map fun v => v.category).sum = (st.map fun v => v.category).sum := by
  rw [List.map_map]
  congr 1
  apply List.map_congr_left
  intro v _
  exact cV_cat G v
theorem aW_size {G : aG} {n cells : Nat} {S : aSt} {s : State} {H : Heap} {locs : List Loc} (hn : s.heap.size + cells = gB G + n) (hS : va_S (gA G) s.heap H locs) (hW : aW G n S H) (hb : ∀ a, a < gB G → s.heap[a]? = G.1[a]?) (h : H.size ≤ s.heap.size + cells) : H.size = gB G + n := by
  cases n with
  | zero =>
    have h1 : gB G ≤ H.size := by
      rcases Nat.lt_or_ge H.size (gB G) with q | q
      · have h2 := am_old hb hS H.size q
        rw [show G.1[H.size]? = some (G.1[H.size]'q) from Array.getElem?_eq_getElem q] at h2
        exact absurd (Array.getElem?_eq_some_iff.mp h2).1 (Nat.lt_irrefl _)
      · exact q
    omega
  | succ k =>
    have h1 := (hW.2.1 k _ (aws_get (Nat.lt_succ_self k))).lt
    dsimp only at h1
    omega
/-- what a call does, once the kit has run it -/
theorem Go.run {rm : Room} {n' : Nat} {r : Option Value} {S' : aSt} {As st0 : List Value} {pc' : Nat} (hp : pc + 3 = pc') (hn' : n' = n + rm.cells)
    (hr : ∀ (p : Program) (e : Env) (s : State) (m : MethodId) (args : Array Value) (below : List Frame) (meth : Method) (c : Code) (H : Heap) (locs : List Loc) (ls : Array Slot), aC G M p s m args meth c → s.heap.size + cells = gB G + n → va_S (gA G) s.heap H locs → aW G n S H → lv_has ls M.2.1 (lv.map (cL G)) → (∀ U : State, U.heap = H → s.WarmedH U.vm → H.size ≤ s.heap.size + cells → aPc G n S As (As.map (cV G)).toArray U) → H.size ≤ s.heap.size + cells →
      va_Run p l e R s m args below meth c H locs cells slots rm.cells rm.slots (F0 m pc ls (st0.map (cV G))) (st.map (cV G)) (aQ G r n' S' (As.map (cV G)).toArray) (gA G))
    (kk : Go G l R Tm M n' (cells + rm.cells) (slots + rm.slots) pc' lv (r.toList ++ st) S') : Go G l R Tm M n cells slots pc lv st0 S := by
  subst hp
  intro p e s m args below meth c H locs ls C hn hS hW hl
  refine w_size (fun hz => ?_)
  have hsz := aW_size hn hS hW C.2.2.2.2.2.2.2.2.2 hz
  have hrun := hr p e s m args below meth c H locs ls C hn hS hW hl (fun U hU hWm _ => ⟨rfl, by rw [hU]; exact hsz, C.2.2.2.2.2.2.2.2.1.moved hWm, by rw [hU]; exact hW⟩) hz
  intro T hT X
  obtain ⟨v, st₀, t, T', L, h0, X', hL, e1, e2, ⟨hv, hq⟩, stp⟩ := hrun T hT X
  have hv' : v = r.map (cV G) := by
    injection hv
  subst hv'
  rw [← e1] at hq
  have hsz' : H.size ≤ T'.heap.size := by
    subst hn'
    cases hc : n + rm.cells with
    | zero =>
      have h1 : gB G ≤ T'.heap.size := by
        rcases Nat.lt_or_ge T'.heap.size (gB G) with q | q
        · have h2 := hq.2.2 T'.heap.size q
          rw [show G.1[T'.heap.size]? = some (G.1[T'.heap.size]'q) from Array.getElem?_eq_getElem q] at h2
          exact absurd (Array.getElem?_eq_some_iff.mp h2).1 (Nat.lt_irrefl _)
        · exact q
      omega
    | succ k =>
      rw [hc] at hq
      have h1 := (hq.2.1 k _ (aws_get (Nat.lt_succ_self k))).lt
      dsimp only at h1
      omega
  obtain ⟨t2, a1, b1⟩ := kk p e s m args below meth c T'.heap (locs ++ L) ls C (by subst hn'; omega) ⟨Nat.le_trans hS.1 hsz', fun q h1 h2 => by
      rw [hq.2.2 q (by show q < gB G; exact Nat.lt_of_not_le h2), C.2.2.2.2.2.2.2.2.2 q (Nat.lt_of_not_le h2)], fun q hq' => by
      rcases List.mem_append.mp hq' with h | h
      · exact hS.2.2 q h
      · exact hL q h⟩ hq hl T' rfl X'
  refine ⟨t2, stp t2 ?_, b1⟩
  have hst : (r.toList ++ st).map (cV G) = (r.map (cV G)).toList ++ st.map (cV G) := by
    cases r <;> rfl
  rw [hst] at a1
  exact a1
theorem am_good {w : Cond} (h : w ∈ lw_g) : w ∈ lw_g ∧ ((w.onTables && w.keeps) = true ∨ ∃ ty, w = .arrayClass ty) := ⟨h, good_of_word (List.mem_filter.mp h).2⟩
theorem am_goodIn {ws : List Cond} (h : ∀ w ∈ ws, w ∈ lw_g) : GoodIn lw_g ws := fun w hw => am_good (h w hw)
/-- the words of a virtual call -/
def aCV (own : String) (ix : Nat) (y : MethodName) (tag : Nat) (M' : aM) (k : Nat) : Prop := (∃ (T : u_T) (N : Nat), vwCl[tag]? = some (y.cls, T, N)) ∧ Cond.methodLink own ix y ∈ lw_g ∧ Cond.instanceMethod y ∈ lw_g ∧ Cond.selects y.cls y y ∈ lw_g ∧ Cond.initialized y.cls ∈ lw_g ∧ Cond.code y M'.1 M'.2.1 M'.2.2.1 ∈ lw_g ∧ y.cls ≠ "java/lang/invoke/MethodHandle" ∧ y.cls ≠ "java/lang/invoke/VarHandle" ∧ (parseMethodDescriptor y.desc).map (fun d => d.parameters.length) = some k
def aCS (own : String) (ix : Nat) (y : MethodName) (M' : aM) (k : Nat) : Prop := Cond.methodLink own ix y ∈ lw_g ∧ Cond.static y ∈ lw_g ∧ Cond.initialized y.cls ∈ lw_g ∧ Cond.code y M'.1 M'.2.1 M'.2.2.1 ∈ lw_g ∧ y.cls ≠ "java/lang/invoke/MethodHandle" ∧ y.cls ≠ "java/lang/invoke/VarHandle" ∧ (parseMethodDescriptor y.desc).map (fun d => d.parameters.length) = some k
theorem Go.callV {y : MethodName} {M' : aM} {rm : Room} {ix k tag : Nat} {r : Option Value} {S' : aSt} {st0 : List Value} (pc' : Nat) (As st : List Value) (hp : pc + 3 = pc') (hd : decode M.1 pc = .ok (.invokevirtual ix, 3)) (hM : Ctr G l y M' rm n (n + rm.cells) S (.ref k :: As) r S') (hw : aCV M.2.2.2.1 ix y tag M' As.length) (hk : k < n) (ht : (SH k).1 = tag) (hR : rm.frames + 1 ≤ R.frames ∧ 8 + (M'.2.1 + 11) + rm.locals ≤ R.locals) (hc : cells + rm.cells ≤ R.cells ∧ slots + rm.slots ≤ R.slots) (hs : st0 = As.reverse ++ .ref k :: st) (hst : (st.map fun v => v.category).sum ≤ 8) (kk : Go G l R Tm M (n + rm.cells) (cells + rm.cells) (slots + rm.slots) pc' lv (r.toList ++ st) S') : Go G l R Tm M n cells slots pc lv st0 S := by
  subst hs
  refine Go.run (rm := rm) (As := .ref k :: As) (r := r) (S' := S') (st := st) hp rfl ?_ kk
  intro p e s m args below meth c H locs ls C hn hS hW hl hPc hz
  obtain ⟨⟨T, N, hcl⟩, w1, w2, w3, w4, w5, w6⟩ := hw
  have hq : qa G k = gB G + k := qa_own (by have := hW.1; omega)
  have hws : ∀ w ∈ wsV M.2.2.2.1 ix y.cls y (.code y M'.1 M'.2.1 M'.2.2.1 :: lw_g), w ∈ lw_g := by
    intro w h
    simp only [wsV, List.cons_append, List.nil_append, List.mem_cons] at h
    rcases h with rfl | rfl | rfl | rfl | rfl | h
    · exact w1
    · exact w2
    · exact w3
    · exact w4
    · exact w5
    · exact h
  have he : (aws G n S)[k]? = some (gB G + k, .inr (tag, am_fs G S k)) := by rw [aws_get hk, am_cE_obj ht (vw_lt hcl)]
  have hrec := va_recv (C.2.2.2.2.2.2.2.2.1.1) hW.2.1 hcl he
  refine va_runV (C := y.cls) (b := qa G k) (As := As.map (cV G)) (n := As.length) (Ts := lw_g) (own := M.2.2.2.1) (nL := M.2.1) (cc := M.1) ⟨C.1, C.2.1, C.2.2.1, C.2.2.2.2.1, C.2.2.2.2.2.2.2.1⟩ hM (cwV _ C.2.2.2.2.2.2.2.1 (am_goodIn hws) rfl rfl rfl ⟨rfl, w6⟩ hR) ⟨aPc_blind G n S _, by rw [hq]; exact hrec, fun U hU hWm => hPc U hU hWm hz⟩ rfl (by simp) hl.1 (by simp [List.map_reverse]; rfl) (lv_room (by rw [am_cat]; exact hst)) hd hc
theorem Go.callS {y : MethodName} {M' : aM} {rm : Room} {ix : Nat} {r : Option Value} {S' : aSt} {st0 : List Value} (pc' : Nat) (As st : List Value) (hp : pc + 3 = pc') (hd : decode M.1 pc = .ok (.invokestatic ix, 3)) (hM : Ctr G l y M' rm n (n + rm.cells) S As r S') (hw : aCS M.2.2.2.1 ix y M' As.length) (hR : rm.frames + 1 ≤ R.frames ∧ 8 + (M'.2.1 + 11) + rm.locals ≤ R.locals) (hc : cells + rm.cells ≤ R.cells ∧ slots + rm.slots ≤ R.slots) (hs : st0 = As.reverse ++ st) (hst : (st.map fun v => v.category).sum ≤ 8) (kk : Go G l R Tm M (n + rm.cells) (cells + rm.cells) (slots + rm.slots) pc' lv (r.toList ++ st) S') : Go G l R Tm M n cells slots pc lv st0 S := by
  subst hs
  refine Go.run (rm := rm) (As := As) (r := r) (S' := S') (st := st) hp rfl ?_ kk
  intro p e s m args below meth c H locs ls C hn hS hW hl hPc hz
  obtain ⟨w1, w2, w4, w5, w6⟩ := hw
  have hws : ∀ w ∈ va_wsS M.2.2.2.1 ix y (.code y M'.1 M'.2.1 M'.2.2.1 :: lw_g), w ∈ lw_g := by
    intro w h
    simp only [va_wsS, List.cons_append, List.nil_append, List.mem_cons] at h
    rcases h with rfl | rfl | rfl | rfl | h
    · exact w1
    · exact w2
    · exact w4
    · exact w5
    · exact h
  exact va_runS (As := As.map (cV G)) (n := As.length) (Ts := lw_g) (own := M.2.2.2.1) (nL := M.2.1) (cc := M.1) ⟨C.1, C.2.1, C.2.2.1, C.2.2.2.2.1, C.2.2.2.2.2.2.2.1⟩ hM (va_cwS _ C.2.2.2.2.2.2.2.1 (am_goodIn hws) rfl rfl rfl w6 hR) ⟨aPc_blind G n S _, fun U hU hWm => hPc U hU hWm hz⟩ rfl (by simp) hl.1 (by simp [List.map_reverse]) (lv_room (by rw [am_cat]; exact hst)) hd hc
end GC
/-! the room of a method that makes nothing, D frames deep; rows with results -/
def rmM (D : Nat) : Room := { frames := D, cells := 0, slots := 0, locals := 64 * D }
theorem rmM_le {D D' L : Nat} (h : D' < D) (hL : L ≤ 45) : (rmM D').frames + 1 ≤ (rmM D).frames ∧ 8 + (L + 11) + (rmM D').locals ≤ (rmM D).locals := by
  show D' + 1 ≤ D ∧ 8 + (L + 11) + 64 * D' ≤ 64 * D
  omega
def isB (x : Int32) : Bool := decide (x = 0) || decide (x = 1)
theorem isB_or {x : Int32} (h : isB x = true) : x = 0 ∨ x = 1 := by simpa [isB] using h
def bn2 {α β γ : Type} (o : Option (α × β)) (f : α → β → Option γ) : Option γ := o.bind (fun q => f q.1 q.2)
theorem f_bn2 {α β γ : Type} {o : Option (α × β)} {f : α → β → Option γ} {r : γ} (h : bn2 o f = some r) : ∃ a b, o = some (a, b) ∧ f a b = some r := by
  cases o with
  | none => cases h
  | some q => exact ⟨q.1, q.2, rfl, h⟩
abbrev GoM (G : aG) (l : Launch) (D : Nat) (Tm : List Frame → Array Value → State → State → Prop) (M : aM) (pc : Nat) (lv : List (Nat × Value)) (st : List Value) (S : aSt) : Prop := Go G l (rmM D) Tm M 97 0 0 pc lv st S
section GM
variable {G : aG} {l : Launch} {D : Nat} {Tm : List Frame → Array Value → State → State → Prop} {M : aM} {pc : Nat} {lv : List (Nat × Value)} {st : List Value} {S : aSt}
theorem Go.ir {x r : Int32} (hr : M.2.2.1 = some .int) (hd : decode M.1 pc = .ok (.ireturn, 1)) (h : some x = some r) : GoM G l D (TmR G (some (.int r)) 97 S 0 0) M pc lv [.int x] S := by cases h; exact Go.iret hr hd
theorem Go.irS {x r : Int32} {S' : aSt} (hr : M.2.2.1 = some .int) (hd : decode M.1 pc = .ok (.ireturn, 1)) (h : some (x, S) = some (r, S')) : GoM G l D (TmR G (some (.int r)) 97 S' 0 0) M pc lv [.int x] S := by cases h; exact Go.iret hr hd
theorem Go.zr {x r : Int32} (hr : M.2.2.1 = some .boolean) (hx : x = 0 ∨ x = 1) (hd : decode M.1 pc = .ok (.ireturn, 1)) (h : some x = some r) : GoM G l D (TmR G (some (.int r)) 97 S 0 0) M pc lv [.int x] S := by cases h; exact Go.zret hr hx hd
theorem Go.zrS {x r : Int32} {S' : aSt} (hr : M.2.2.1 = some .boolean) (hx : x = 0 ∨ x = 1) (hd : decode M.1 pc = .ok (.ireturn, 1)) (h : some (x, S) = some (r, S')) : GoM G l D (TmR G (some (.int r)) 97 S' 0 0) M pc lv [.int x] S := by cases h; exact Go.zret hr hx hd
theorem Go.lr {x r : Int64} (hr : M.2.2.1 = some .long) (hd : decode M.1 pc = .ok (.lreturn, 1)) (h : some x = some r) : GoM G l D (TmR G (some (.long r)) 97 S 0 0) M pc lv [.long x] S := by cases h; exact Go.lret hr hd
theorem Go.vr {S' : aSt} (hr : M.2.2.1 = none) (hd : decode M.1 pc = .ok (.return_, 1)) (h : some S = some S') : GoM G l D (TmR G none 97 S' 0 0) M pc lv [] S := by cases h; exact Go.vret hr hd
theorem Go.cV {y : MethodName} {M' : aM} {ix k tag D' : Nat} {r : Value} {S' : aSt} {st0 : List Value} (pc' : Nat) (As st : List Value) (hM : Ctr G l y M' (rmM D') 97 97 S (.ref k :: As) (some r) S') (hp : pc + 3 = pc') (hd : decode M.1 pc = .ok (.invokevirtual ix, 3)) (hw : aCV M.2.2.2.1 ix y tag M' As.length) (hk : isT k tag = true) (hD : D' < D) (hL : M'.2.1 ≤ 45) (hs : st0 = As.reverse ++ .ref k :: st) (hst : (st.map fun v => v.category).sum ≤ 8) (kk : GoM G l D Tm M pc' lv (r :: st) S') : GoM G l D Tm M pc lv st0 S :=
  Go.callV pc' As st hp hd hM hw (isT_lt hk) (isT_sh hk) (rmM_le hD hL) ⟨Nat.le_refl 0, Nat.le_refl 0⟩ hs hst kk
theorem Go.cVv {y : MethodName} {M' : aM} {ix k tag D' : Nat} {S' : aSt} {st0 : List Value} (pc' : Nat) (As st : List Value) (hM : Ctr G l y M' (rmM D') 97 97 S (.ref k :: As) none S') (hp : pc + 3 = pc') (hd : decode M.1 pc = .ok (.invokevirtual ix, 3)) (hw : aCV M.2.2.2.1 ix y tag M' As.length) (hk : isT k tag = true) (hD : D' < D) (hL : M'.2.1 ≤ 45) (hs : st0 = As.reverse ++ .ref k :: st) (hst : (st.map fun v => v.category).sum ≤ 8) (kk : GoM G l D Tm M pc' lv st S') : GoM G l D Tm M pc lv st0 S :=
  Go.callV pc' As st hp hd hM hw (isT_lt hk) (isT_sh hk) (rmM_le hD hL) ⟨Nat.le_refl 0, Nat.le_refl 0⟩ hs hst kk
theorem Go.cS {y : MethodName} {M' : aM} {ix D' : Nat} {r : Value} {S' : aSt} {st0 : List Value} (pc' : Nat) (As st : List Value) (hM : Ctr G l y M' (rmM D') 97 97 S As (some r) S') (hp : pc + 3 = pc') (hd : decode M.1 pc = .ok (.invokestatic ix, 3)) (hw : aCS M.2.2.2.1 ix y M' As.length) (hD : D' < D) (hL : M'.2.1 ≤ 45) (hs : st0 = As.reverse ++ st) (hst : (st.map fun v => v.category).sum ≤ 8) (kk : GoM G l D Tm M pc' lv (r :: st) S') : GoM G l D Tm M pc lv st0 S :=
  Go.callS pc' As st hp hd hM hw (rmM_le hD hL) ⟨Nat.le_refl 0, Nat.le_refl 0⟩ hs hst kk
theorem Go.cSv {y : MethodName} {M' : aM} {ix D' : Nat} {S' : aSt} {st0 : List Value} (pc' : Nat) (As st : List Value) (hM : Ctr G l y M' (rmM D') 97 97 S As none S') (hp : pc + 3 = pc') (hd : decode M.1 pc = .ok (.invokestatic ix, 3)) (hw : aCS M.2.2.2.1 ix y M' As.length) (hD : D' < D) (hL : M'.2.1 ≤ 45) (hs : st0 = As.reverse ++ st) (hst : (st.map fun v => v.category).sum ≤ 8) (kk : GoM G l D Tm M pc' lv st S') : GoM G l D Tm M pc lv st0 S :=
  Go.callS pc' As st hp hd hM hw (rmM_le hD hL) ⟨Nat.le_refl 0, Nat.le_refl 0⟩ hs hst kk
theorem Go.topi {x : Int32} (y : Int32) (h : y = x) (k : GoM G l D Tm M pc lv (.int y :: st) S) : GoM G l D Tm M pc lv (.int x :: st) S := by subst h; exact k
theorem Go.topl {x : Int64} (y : Int64) (h : y = x) (k : GoM G l D Tm M pc lv (.long y :: st) S) : GoM G l D Tm M pc lv (.long x :: st) S := by subst h; exact k
theorem Go.stt (S' : aSt) (h : S' = S) (k : GoM G l D Tm M pc lv st S') : GoM G l D Tm M pc lv st S := by subst h; exact k
theorem Go.inc {i : Nat} {d : Int} {x : Int32} (j : Nat) (pc' : Nat) (c : Int32) (lv' : List (Nat × Value)) (hp : pc + 3 = pc') (hd : decode M.1 pc = .ok (.iinc i d, 3)) (hj : lv[j]? = some (i, .int x)) (hc : Int32.ofInt d = c) (hi : i < M.2.1) (hv : (i, Value.int (x + c)) :: lv.filter (fun q => !(q.1 == i) && !(q.1 + 1 == i && q.2.category == 2)) = lv') (k : GoM G l D Tm M pc' lv' st S) : GoM G l D Tm M pc lv st S := by
  subst hc
  exact Go.iinc j pc' _ lv' hp hd hj rfl hi hv k
theorem Go.incn {i : Nat} {d : Int} {x : Int32} (j : Nat) (pc' : Nat) (c y : Int32) (lv' : List (Nat × Value)) (hp : pc + 3 = pc') (hd : decode M.1 pc = .ok (.iinc i d, 3)) (hj : lv[j]? = some (i, .int x)) (hc : Int32.ofInt d = c) (hy : y = x + c) (hi : i < M.2.1) (hv : (i, Value.int y) :: lv.filter (fun q => !(q.1 == i) && !(q.1 + 1 == i && q.2.category == 2)) = lv') (k : GoM G l D Tm M pc' lv' st S) : GoM G l D Tm M pc lv st S := by
  subst hc
  subst hy
  exact Go.iinc j pc' _ lv' hp hd hj rfl hi hv k
end GM
theorem am_mem {w : Cond} (i : Nat) (h : lw_tbl[i]? = some w) (hg : goodWord w = true) : w ∈ lw_g := List.mem_filter.mpr ⟨List.mem_of_getElem? h, hg⟩
theorem am_memN {w : Cond} (i : Nat) (h : lw_tbl[i]? = some w) (hg : am_nest w = true) : w ∈ lw_n := List.mem_filter.mpr ⟨List.mem_of_getElem? h, hg⟩
theorem tsw_ne {x c : Int32} {z : Int} (h : ¬ x = c) (hz : c.toInt = z) : x.toInt ≠ z := fun e => h (Int32.toInt_inj.mp (e.trans hz.symm))
end
section
/-! Math.max, Math.min, Math.abs: the kit's rows -/
section GMath
variable {G : aG} {l : Launch} {D : Nat} {Tm : List Frame → Array Value → State → State → Prop} {M : aM} {pc : Nat} {lv : List (Nat × Value)} {st : List Value} {S : aSt}
theorem am_lo {st : List Value} (h : (st.map fun v => v.category).sum ≤ 8) : ((st.map (cV G)).map fun v => v.category).sum + 13 ≤ (rmM (D + 1)).locals := by
  rw [am_cat]
  show _ ≤ 64 * (D + 1)
  omega
theorem Go.mmax {ix : Nat} {x y : Int32} (pc' : Nat) (hp : pc + 3 = pc') (hd : decode M.1 pc = .ok (.invokestatic ix, 3)) (w1 : Cond.methodLink M.2.2.2.1 ix Lib.Math.max.name ∈ lw_g) (w2 : Cond.static Lib.Math.max.name ∈ lw_g) (w3 : Cond.initialized "java/lang/Math" ∈ lw_g) (w4 : Cond.code Lib.Math.max.name Lib.Math.max.code 2 (some .int) ∈ lw_g) (hst : (st.map fun v => v.category).sum ≤ 8) (k : GoM G l (D + 1) Tm M pc' lv (.int (if x < y then y else x) :: st) S) : GoM G l (D + 1) Tm M pc lv (.int y :: .int x :: st) S := by
  subst hp
  intro p e s m args below meth c H locs ls C hn hS hW hl
  exact va_mmax C.1 C.2.1 (C.2.2.1.trans hl.1.symm) C.2.2.2.2.1 (C.2.2.2.2.2.2.2.1 _ w1) (C.2.2.2.2.2.2.2.1 _ w2) (C.2.2.2.2.2.2.2.1 _ w3) (C.2.2.2.2.2.2.2.1 _ w4) (Nat.succ_le_succ (Nat.zero_le D)) (am_lo hst) (Nat.le_refl 0) (Nat.le_refl 0) hd (k p e s m args below meth c H locs ls C hn hS hW hl)
theorem Go.mmin {ix : Nat} {x y : Int32} (pc' : Nat) (hp : pc + 3 = pc') (hd : decode M.1 pc = .ok (.invokestatic ix, 3)) (w1 : Cond.methodLink M.2.2.2.1 ix Lib.Math.min.name ∈ lw_g) (w2 : Cond.static Lib.Math.min.name ∈ lw_g) (w3 : Cond.initialized "java/lang/Math" ∈ lw_g) (w4 : Cond.code Lib.Math.min.name Lib.Math.min.code 2 (some .int) ∈ lw_g) (hst : (st.map fun v => v.category).sum ≤ 8) (k : GoM G l (D + 1) Tm M pc' lv (.int (if y < x then y else x) :: st) S) : GoM G l (D + 1) Tm M pc lv (.int y :: .int x :: st) S := by
  subst hp
  intro p e s m args below meth c H locs ls C hn hS hW hl
  exact va_mmin C.1 C.2.1 (C.2.2.1.trans hl.1.symm) C.2.2.2.2.1 (C.2.2.2.2.2.2.2.1 _ w1) (C.2.2.2.2.2.2.2.1 _ w2) (C.2.2.2.2.2.2.2.1 _ w3) (C.2.2.2.2.2.2.2.1 _ w4) (Nat.succ_le_succ (Nat.zero_le D)) (am_lo hst) (Nat.le_refl 0) (Nat.le_refl 0) hd (k p e s m args below meth c H locs ls C hn hS hW hl)
theorem Go.mabs {ix : Nat} {x : Int32} (pc' : Nat) (hp : pc + 3 = pc') (hd : decode M.1 pc = .ok (.invokestatic ix, 3)) (w1 : Cond.methodLink M.2.2.2.1 ix Lib.Math.abs.name ∈ lw_g) (w2 : Cond.static Lib.Math.abs.name ∈ lw_g) (w3 : Cond.initialized "java/lang/Math" ∈ lw_g) (w4 : Cond.code Lib.Math.abs.name Lib.Math.abs.code 1 (some .int) ∈ lw_g) (hst : (st.map fun v => v.category).sum ≤ 8) (k : GoM G l (D + 1) Tm M pc' lv (.int (if 0 ≤ x then x else 0 - x) :: st) S) : GoM G l (D + 1) Tm M pc lv (.int x :: st) S := by
  subst hp
  intro p e s m args below meth c H locs ls C hn hS hW hl
  exact va_mabs C.1 C.2.1 (C.2.2.1.trans hl.1.symm) C.2.2.2.2.1 (C.2.2.2.2.2.2.2.1 _ w1) (C.2.2.2.2.2.2.2.1 _ w2) (C.2.2.2.2.2.2.2.1 _ w3) (C.2.2.2.2.2.2.2.1 _ w4) (Nat.succ_le_succ (Nat.zero_le D)) (am_lo hst) (Nat.le_refl 0) (Nat.le_refl 0) hd (k p e s m args below meth c H locs ls C hn hS hW hl)
end GMath
end
section
/-! Facts that the rows use: methods, words, constants (written by program). -/
theorem inX1g : ∀ w ∈ wsX10, w ∈ lw_g := by decide +kernel
theorem inX2g : ∀ w ∈ wsX20, w ∈ lw_g := by decide +kernel
theorem inX3g : ∀ w ∈ wsX30, w ∈ lw_g := by decide +kernel
theorem inX4g : ∀ w ∈ wsX40, w ∈ lw_g := by decide +kernel
theorem inX5g : ∀ w ∈ wsX50, w ∈ lw_g := by decide +kernel
theorem inX6g : ∀ w ∈ wsX60, w ∈ lw_g := by decide +kernel
theorem inX7g : ∀ w ∈ wsX70, w ∈ lw_g := by decide +kernel
abbrev mX0_ofLetter : aM := (cX0_ofLetter, 2, some .int, RX0, "ofLetter")
abbrev mX0_isA : aM := (cX0_isA, 2, some .boolean, RX0, "isA")
abbrev mX0_meaning : aM := (cX0_meaning, 3, some .int, RX0, "meaning")
abbrev mX1_init : aM := (cX1_init, 1, none, RX1, "<init>")
abbrev mX1_readFrom : aM := (cX1_readFrom, 6, some .int, RX1, "readFrom")
abbrev mX1_pastBlanks : aM := (cX1_pastBlanks, 3, some .int, RX1, "pastBlanks")
abbrev mX1_readCard : aM := (cX1_readCard, 4, some .int, RX1, "readCard")
abbrev mX1_readQuestion : aM := (cX1_readQuestion, 3, some .int, RX1, "readQuestion")
abbrev mX1_figure : aM := (cX1_figure, 5, some .int, RX1, "figure")
abbrev mX1_isCard : aM := (cX1_isCard, 2, some .boolean, RX1, "isCard")
abbrev mX1_isQuestion : aM := (cX1_isQuestion, 2, some .boolean, RX1, "isQuestion")
abbrev mX1_allCards : aM := (cX1_allCards, 1, some .int, RX1, "allCards")
abbrev mX1_isFreeCard : aM := (cX1_isFreeCard, 2, some .boolean, RX1, "isFreeCard")
abbrev mX1_isFreeQuestion : aM := (cX1_isFreeQuestion, 2, some .boolean, RX1, "isFreeQuestion")
abbrev mX1_freeCards : aM := (cX1_freeCards, 3, some .int, RX1, "freeCards")
abbrev mX1_answered : aM := (cX1_answered, 3, some .int, RX1, "answered")
abbrev mX1_meaningOf : aM := (cX1_meaningOf, 2, some .int, RX1, "meaningOf")
abbrev mX1_isFitting : aM := (cX1_isFitting, 4, some .boolean, RX1, "isFitting")
abbrev mX1_fittingCards : aM := (cX1_fittingCards, 4, some .int, RX1, "fittingCards")
abbrev mX1_trueCards : aM := (cX1_trueCards, 5, some .int, RX1, "trueCards")
abbrev mX1_questionsFitted : aM := (cX1_questionsFitted, 4, some .int, RX1, "questionsFitted")
abbrev mX1_verdict : aM := (cX1_verdict, 2, some .int, RX1, "verdict")
abbrev mX1_answeredWith : aM := (cX1_answeredWith, 4, some .int, RX1, "answeredWith")
abbrev mX1_waysOfTruth : aM := (cX1_waysOfTruth, 3, some .int, RX1, "waysOfTruth")
abbrev mX1_cardFact : aM := (cX1_cardFact, 3, some .int, RX1, "cardFact")
abbrev mX1_questionFact : aM := (cX1_questionFact, 3, some .int, RX1, "questionFact")
abbrev mX1_markOf : aM := (cX1_markOf, 3, some .int, RX1, "markOf")
abbrev mX1_yesMeaning : aM := (cX1_yesMeaning, 4, some .int, RX1, "yesMeaning")
abbrev mX1_cardsOn : aM := (cX1_cardsOn, 4, some .int, RX1, "cardsOn")
abbrev mX1_placesSaying : aM := (cX1_placesSaying, 4, some .int, RX1, "placesSaying")
abbrev mX1_placesAmong : aM := (cX1_placesAmong, 3, some .int, RX1, "placesAmong")
abbrev mX1_pairsWith : aM := (cX1_pairsWith, 5, some .int, RX1, "pairsWith")
abbrev mX1_firstAlike : aM := (cX1_firstAlike, 6, some .int, RX1, "firstAlike")
abbrev mX1_cardsOfOn : aM := (cX1_cardsOfOn, 5, some .int, RX1, "cardsOfOn")
abbrev mX1_homeOf : aM := (cX1_homeOf, 6, some .int, RX1, "homeOf")
abbrev mX1_strayCards : aM := (cX1_strayCards, 3, some .int, RX1, "strayCards")
abbrev mX1_fewestMoved : aM := (cX1_fewestMoved, 3, some .int, RX1, "fewestMoved")
abbrev mX1_mostStaying : aM := (cX1_mostStaying, 7, some .int, RX1, "mostStaying")
abbrev mX1_layByAge : aM := (cX1_layByAge, 5, none, RX1, "layByAge")
abbrev mX1_cardByLot : aM := (cX1_cardByLot, 9, some .int, RX1, "cardByLot")
abbrev mX1_foldInto : aM := (cX1_foldInto, 7, some .long, RX1, "foldInto")
abbrev mX2_init : aM := (cX2_init, 1, none, RX2, "<init>")
abbrev mX2_countIn : aM := (cX2_countIn, 2, none, RX2, "countIn")
abbrev mX2_countAhead : aM := (cX2_countAhead, 5, none, RX2, "countAhead")
abbrev mX2_spreadAhead : aM := (cX2_spreadAhead, 7, none, RX2, "spreadAhead")
abbrev mX2_mostPairs : aM := (cX2_mostPairs, 3, some .int, RX2, "mostPairs")
abbrev mX2_countOn : aM := (cX2_countOn, 4, none, RX2, "countOn")
abbrev mX2_waysFrom : aM := (cX2_waysFrom, 7, some .int, RX2, "waysFrom")
abbrev mX2_countWith : aM := (cX2_countWith, 6, some .int, RX2, "countWith")
abbrev mX2_sureCard : aM := (cX2_sureCard, 3, some .int, RX2, "sureCard")
abbrev mX2_layFullest : aM := (cX2_layFullest, 5, none, RX2, "layFullest")
abbrev mX2_firstFullest : aM := (cX2_firstFullest, 5, some .int, RX2, "firstFullest")
abbrev mX2_layMostWished : aM := (cX2_layMostWished, 6, some .int, RX2, "layMostWished")
abbrev mX2_mostFrom : aM := (cX2_mostFrom, 8, some .int, RX2, "mostFrom")
abbrev mX2_firstWished : aM := (cX2_firstWished, 8, some .int, RX2, "firstWished")
abbrev mX3_init : aM := (cX3_init, 1, none, RX3, "<init>")
abbrev mX3_partBest : aM := (cX3_partBest, 4, none, RX3, "partBest")
abbrev mX3_countMeanings : aM := (cX3_countMeanings, 4, none, RX3, "countMeanings")
abbrev mX3_partFrom : aM := (cX3_partFrom, 7, none, RX3, "partFrom")
abbrev mX3_findIn : aM := (cX3_findIn, 4, none, RX3, "findIn")
abbrev mX3_fewestFor : aM := (cX3_fewestFor, 8, some .int, RX3, "fewestFor")
abbrev mX4_init : aM := (cX4_init, 2, none, RX4, "<init>")
abbrev mX4_isThere : aM := (cX4_isThere, 1, some .boolean, RX4, "isThere")
abbrev mX4_reaches : aM := (cX4_reaches, 2, some .boolean, RX4, "reaches")
abbrev mX4_holds : aM := (cX4_holds, 3, some .boolean, RX4, "holds")
abbrev mX4_begin : aM := (cX4_begin, 3, none, RX4, "begin")
abbrev mX4_layAt : aM := (cX4_layAt, 3, none, RX4, "layAt")
abbrev mX4_foldInto : aM := (cX4_foldInto, 6, some .long, RX4, "foldInto")
abbrev mX5_init : aM := (cX5_init, 1, none, RX5, "<init>")
abbrev mX5_begin : aM := (cX5_begin, 1, none, RX5, "begin")
abbrev mX5_questionOf : aM := (cX5_questionOf, 3, some .int, RX5, "questionOf")
abbrev mX5_addTaking : aM := (cX5_addTaking, 3, none, RX5, "addTaking")
abbrev mX5_goBack : aM := (cX5_goBack, 3, some .int, RX5, "goBack")
abbrev mX5_become : aM := (cX5_become, 2, none, RX5, "become")
abbrev mX6_init : aM := (cX6_init, 2, none, RX6, "<init>")
abbrev mX6_row : aM := (cX6_row, 3, some .int, RX6, "row")
abbrev mX6_lay : aM := (cX6_lay, 5, some .int, RX6, "lay")
abbrev mX6_at : aM := (cX6_at, 4, some .int, RX6, "at")
abbrev mX6_tear : aM := (cX6_tear, 2, some .int, RX6, "tear")
abbrev mX6_copy : aM := (cX6_copy, 6, some .int, RX6, "copy")
abbrev mX6_mean : aM := (cX6_mean, 6, some .int, RX6, "mean")
abbrev mX6_text : aM := (cX6_text, 3, some .int, RX6, "text")
abbrev mX6_put : aM := (cX6_put, 6, some .int, RX6, "put")
abbrev mX6_fault : aM := (cX6_fault, 2, some .int, RX6, "fault")
abbrev mX6_library : aM := (cX6_library, 4, some .int, RX6, "library")
abbrev mX6_card : aM := (cX6_card, 3, some .int, RX6, "card")
abbrev mX6_question : aM := (cX6_question, 3, some .int, RX6, "question")
abbrev mX6_mark : aM := (cX6_mark, 3, some .int, RX6, "mark")
abbrev mX6_shelve : aM := (cX6_shelve, 4, some .int, RX6, "shelve")
abbrev mX6_age : aM := (cX6_age, 4, some .int, RX6, "age")
abbrev mX6_truth : aM := (cX6_truth, 4, some .int, RX6, "truth")
abbrev mX6_fits : aM := (cX6_fits, 2, some .int, RX6, "fits")
abbrev mX6_take : aM := (cX6_take, 3, some .int, RX6, "take")
abbrev mX6_bring : aM := (cX6_bring, 3, some .int, RX6, "bring")
abbrev mX6_undo : aM := (cX6_undo, 2, some .int, RX6, "undo")
abbrev mX6_right : aM := (cX6_right, 1, some .int, RX6, "right")
abbrev mX6_keep : aM := (cX6_keep, 2, some .int, RX6, "keep")
abbrev mX6_on : aM := (cX6_on, 2, some .int, RX6, "on")
abbrev mX6_match : aM := (cX6_match, 2, some .int, RX6, "match")
abbrev mX6_wished : aM := (cX6_wished, 2, some .int, RX6, "wished")
abbrev mX6_fullest : aM := (cX6_fullest, 3, some .int, RX6, "fullest")
abbrev mX6_may : aM := (cX6_may, 4, some .int, RX6, "may")
abbrev mX6_sure : aM := (cX6_sure, 2, some .int, RX6, "sure")
abbrev mX6_test : aM := (cX6_test, 7, some .int, RX6, "test")
abbrev mX6_odds : aM := (cX6_odds, 3, some .int, RX6, "odds")
abbrev mX6_worlds : aM := (cX6_worlds, 3, some .int, RX6, "worlds")
abbrev mX6_never : aM := (cX6_never, 3, some .int, RX6, "never")
abbrev mX6_parts : aM := (cX6_parts, 1, some .int, RX6, "parts")
abbrev mX6_finds : aM := (cX6_finds, 2, some .int, RX6, "finds")
abbrev mX6_left : aM := (cX6_left, 6, some .int, RX6, "left")
abbrev mX6_forged : aM := (cX6_forged, 5, some .int, RX6, "forged")
abbrev mX6_beside : aM := (cX6_beside, 4, some .int, RX6, "beside")
abbrev mX6_habit : aM := (cX6_habit, 2, some .int, RX6, "habit")
abbrev mX6_order : aM := (cX6_order, 1, some .int, RX6, "order")
abbrev mX6_byAge : aM := (cX6_byAge, 2, some .int, RX6, "byAge")
abbrev mX6_lots : aM := (cX6_lots, 9, some .int, RX6, "lots")
abbrev mX6_asked : aM := (cX6_asked, 1, some .int, RX6, "asked")
abbrev mX6_upper : aM := (cX6_upper, 1, some .long, RX6, "upper")
abbrev mX6_lower : aM := (cX6_lower, 1, some .long, RX6, "lower")
abbrev mX6_count : aM := (cX6_count, 2, some .int, RX6, "count")
abbrev mX6_finding : aM := (cX6_finding, 1, some .int, RX6, "finding")
abbrev mX6_findings : aM := (cX6_findings, 2, some .int, RX6, "findings")
abbrev mX6_digest : aM := (cX6_digest, 4, some .long, RX6, "digest")
abbrev mX6_found : aM := (cX6_found, 2, some .int, RX6, "found")
abbrev mX6_tellChances : aM := (cX6_tellChances, 7, none, RX6, "tellChances")
abbrev mX6_keptThere : aM := (cX6_keptThere, 3, some .int, RX6, "keptThere")
abbrev mX6_thereAmong : aM := (cX6_thereAmong, 3, some .int, RX6, "thereAmong")
abbrev mX6_greatestShared : aM := (cX6_greatestShared, 11, some .long, RX6, "greatestShared")
abbrev mX6_isRow : aM := (cX6_isRow, 1, some .boolean, RX6, "isRow")
abbrev mX6_isText : aM := (cX6_isText, 1, some .boolean, RX6, "isText")
abbrev mX6_isPlaceKept : aM := (cX6_isPlaceKept, 1, some .boolean, RX6, "isPlaceKept")
abbrev mX7_init : aM := (cX7_init, 2, none, RX7, "<init>")
abbrev mX7_in : aM := (cX7_in, 6, some .boolean, RX7, "in")
abbrev mX7_found : aM := (cX7_found, 2, some .int, RX7, "found")
abbrev mX7_tell : aM := (cX7_tell, 2, some .int, RX7, "tell")
abbrev mX7_isRow : aM := (cX7_isRow, 1, some .boolean, RX7, "isRow")
abbrev mX7_isText : aM := (cX7_isText, 1, some .boolean, RX7, "isText")
abbrev mX7_row : aM := (cX7_row, 4, some .int, RX7, "row")
abbrev mX7_lay : aM := (cX7_lay, 5, some .int, RX7, "lay")
abbrev mX7_at : aM := (cX7_at, 3, some .int, RX7, "at")
abbrev mX7_tear : aM := (cX7_tear, 2, some .int, RX7, "tear")
abbrev mX7_copy : aM := (cX7_copy, 8, some .int, RX7, "copy")
abbrev mX7_mean : aM := (cX7_mean, 5, some .int, RX7, "mean")
abbrev mX7_text : aM := (cX7_text, 4, some .int, RX7, "text")
abbrev mX7_put : aM := (cX7_put, 5, some .int, RX7, "put")
abbrev mX7_kindOf : aM := (cX7_kindOf, 1, some .int, RX7, "kindOf")
abbrev mX7_byteAt : aM := (cX7_byteAt, 2, some .int, RX7, "byteAt")
abbrev mX7_takes : aM := (cX7_takes, 6, some .boolean, RX7, "takes")
abbrev mX7_takesCard : aM := (cX7_takesCard, 4, some .boolean, RX7, "takesCard")
abbrev mX7_takesQuestion : aM := (cX7_takesQuestion, 3, some .boolean, RX7, "takesQuestion")
abbrev mX7_reads : aM := (cX7_reads, 3, some .int, RX7, "reads")
abbrev mX7_fault : aM := (cX7_fault, 2, some .int, RX7, "fault")
abbrev mX7_copies : aM := (cX7_copies, 5, none, RX7, "copies")
abbrev mX7_library : aM := (cX7_library, 3, some .int, RX7, "library")
abbrev mX7_isCard : aM := (cX7_isCard, 2, some .boolean, RX7, "isCard")
abbrev mX7_isQuestion : aM := (cX7_isQuestion, 2, some .boolean, RX7, "isQuestion")
abbrev mX7_isOf : aM := (cX7_isOf, 2, some .boolean, RX7, "isOf")
abbrev mX7_means : aM := (cX7_means, 3, some .int, RX7, "means")
abbrev mX7_suits : aM := (cX7_suits, 5, some .boolean, RX7, "suits")
abbrev mX7_isFit : aM := (cX7_isFit, 3, some .boolean, RX7, "isFit")
abbrev mX7_answers : aM := (cX7_answers, 4, some .int, RX7, "answers")
abbrev mX7_toldCard : aM := (cX7_toldCard, 3, some .int, RX7, "toldCard")
abbrev mX7_card : aM := (cX7_card, 3, some .int, RX7, "card")
abbrev mX7_question : aM := (cX7_question, 3, some .int, RX7, "question")
abbrev mX7_mark : aM := (cX7_mark, 7, some .int, RX7, "mark")
abbrev mX7_puts : aM := (cX7_puts, 4, some .int, RX7, "puts")
abbrev mX7_shelve : aM := (cX7_shelve, 3, some .int, RX7, "shelve")
abbrev mX7_age : aM := (cX7_age, 3, some .int, RX7, "age")
abbrev mX7_truth : aM := (cX7_truth, 3, some .int, RX7, "truth")
abbrev mX7_fits : aM := (cX7_fits, 4, some .int, RX7, "fits")
abbrev mX7_isFreeCard : aM := (cX7_isFreeCard, 2, some .boolean, RX7, "isFreeCard")
abbrev mX7_isFree : aM := (cX7_isFree, 2, some .boolean, RX7, "isFree")
abbrev mX7_takesIt : aM := (cX7_takesIt, 5, none, RX7, "takesIt")
abbrev mX7_stands : aM := (cX7_stands, 2, some .int, RX7, "stands")
abbrev mX7_take : aM := (cX7_take, 3, some .int, RX7, "take")
abbrev mX7_bring : aM := (cX7_bring, 2, some .int, RX7, "bring")
abbrev mX7_undo : aM := (cX7_undo, 4, some .int, RX7, "undo")
abbrev mX7_standing : aM := (cX7_standing, 4, some .int, RX7, "standing")
abbrev mX7_right : aM := (cX7_right, 2, some .int, RX7, "right")
abbrev mX7_keep : aM := (cX7_keep, 2, some .int, RX7, "keep")
abbrev mX7_on : aM := (cX7_on, 2, some .int, RX7, "on")
abbrev mX7_mayMatch : aM := (cX7_mayMatch, 3, some .boolean, RX7, "mayMatch")
abbrev mX7_layMatchings : aM := (cX7_layMatchings, 9, none, RX7, "layMatchings")
abbrev mX7_counts : aM := (cX7_counts, 4, none, RX7, "counts")
abbrev mX7_laid : aM := (cX7_laid, 4, some .int, RX7, "laid")
abbrev mX7_match : aM := (cX7_match, 2, some .int, RX7, "match")
abbrev mX7_wished : aM := (cX7_wished, 2, some .int, RX7, "wished")
abbrev mX7_fullest : aM := (cX7_fullest, 3, some .int, RX7, "fullest")
abbrev mX7_may : aM := (cX7_may, 4, some .int, RX7, "may")
abbrev mX7_sure : aM := (cX7_sure, 4, some .int, RX7, "sure")
abbrev mX7_test : aM := (cX7_test, 5, some .int, RX7, "test")
abbrev mX7_odds : aM := (cX7_odds, 6, some .int, RX7, "odds")
abbrev mX7_worlds : aM := (cX7_worlds, 6, some .int, RX7, "worlds")
abbrev mX7_never : aM := (cX7_never, 5, some .int, RX7, "never")
abbrev mX7_manyFit : aM := (cX7_manyFit, 6, some .int, RX7, "manyFit")
abbrev mX7_parts : aM := (cX7_parts, 10, some .int, RX7, "parts")
abbrev mX7_isOne : aM := (cX7_isOne, 1, some .boolean, RX7, "isOne")
abbrev mX7_finds : aM := (cX7_finds, 9, some .int, RX7, "finds")
abbrev mX7_left : aM := (cX7_left, 6, some .int, RX7, "left")
abbrev mX7_forged : aM := (cX7_forged, 6, some .int, RX7, "forged")
abbrev mX7_lesser : aM := (cX7_lesser, 2, some .int, RX7, "lesser")
abbrev mX7_manyThere : aM := (cX7_manyThere, 7, some .int, RX7, "manyThere")
abbrev mX7_manyHere : aM := (cX7_manyHere, 5, some .int, RX7, "manyHere")
abbrev mX7_beside : aM := (cX7_beside, 6, some .int, RX7, "beside")
abbrev mX7_lying : aM := (cX7_lying, 5, some .int, RX7, "lying")
abbrev mX7_habit : aM := (cX7_habit, 6, some .int, RX7, "habit")
abbrev mX7_order : aM := (cX7_order, 9, some .int, RX7, "order")
abbrev mX7_byAge : aM := (cX7_byAge, 6, some .int, RX7, "byAge")
abbrev mX7_lots : aM := (cX7_lots, 11, some .int, RX7, "lots")
abbrev mX7_asked : aM := (cX7_asked, 1, some .int, RX7, "asked")
abbrev mX7_upper : aM := (cX7_upper, 1, some .long, RX7, "upper")
abbrev mX7_lower : aM := (cX7_lower, 1, some .long, RX7, "lower")
abbrev mX7_counted : aM := (cX7_counted, 4, some .int, RX7, "counted")
abbrev mX7_count : aM := (cX7_count, 2, some .int, RX7, "count")
abbrev mX7_finding : aM := (cX7_finding, 1, some .int, RX7, "finding")
abbrev mX7_findings : aM := (cX7_findings, 2, some .int, RX7, "findings")
abbrev mX7_digest : aM := (cX7_digest, 5, some .long, RX7, "digest")
abbrev mJ6_bitCount_0f7a4 : aM := (cJ6_bitCount_0f7a4, 1, some .int, RJ6, "bitCount")
abbrev mJ9_abs_0f7a4 : aM := (cJ9_abs_0f7a4, 1, some .int, RJ9, "abs")
abbrev mJ9_max_7cf53 : aM := (cJ9_max_7cf53, 2, some .int, RJ9, "max")
abbrev mJ9_min_7cf53 : aM := (cJ9_min_7cf53, 2, some .int, RJ9, "min")
abbrev mJ7_fill_53178 : aM := (cJ7_fill_53178, 4, none, RJ7, "fill")
theorem cb_10 : (Int8.ofInt (10)).toInt32 = (10 : Int32) := by decide +kernel
theorem cb_100 : (Int8.ofInt (100)).toInt32 = (100 : Int32) := by decide +kernel
theorem cb_110 : (Int8.ofInt (110)).toInt32 = (110 : Int32) := by decide +kernel
theorem cb_112 : (Int8.ofInt (112)).toInt32 = (112 : Int32) := by decide +kernel
theorem cb_113 : (Int8.ofInt (113)).toInt32 = (113 : Int32) := by decide +kernel
theorem cb_116 : (Int8.ofInt (116)).toInt32 = (116 : Int32) := by decide +kernel
theorem cb_118 : (Int8.ofInt (118)).toInt32 = (118 : Int32) := by decide +kernel
theorem cb_121 : (Int8.ofInt (121)).toInt32 = (121 : Int32) := by decide +kernel
theorem cb_16 : (Int8.ofInt (16)).toInt32 = (16 : Int32) := by decide +kernel
theorem cb_17 : (Int8.ofInt (17)).toInt32 = (17 : Int32) := by decide +kernel
theorem cb_20 : (Int8.ofInt (20)).toInt32 = (20 : Int32) := by decide +kernel
theorem cb_24 : (Int8.ofInt (24)).toInt32 = (24 : Int32) := by decide +kernel
theorem cb_31 : (Int8.ofInt (31)).toInt32 = (31 : Int32) := by decide +kernel
theorem cb_32 : (Int8.ofInt (32)).toInt32 = (32 : Int32) := by decide +kernel
theorem cb_38 : (Int8.ofInt (38)).toInt32 = (38 : Int32) := by decide +kernel
theorem cb_40 : (Int8.ofInt (40)).toInt32 = (40 : Int32) := by decide +kernel
theorem cb_45 : (Int8.ofInt (45)).toInt32 = (45 : Int32) := by decide +kernel
theorem cb_48 : (Int8.ofInt (48)).toInt32 = (48 : Int32) := by decide +kernel
theorem cb_49 : (Int8.ofInt (49)).toInt32 = (49 : Int32) := by decide +kernel
theorem cb_52 : (Int8.ofInt (52)).toInt32 = (52 : Int32) := by decide +kernel
theorem cb_59 : (Int8.ofInt (59)).toInt32 = (59 : Int32) := by decide +kernel
theorem cb_6 : (Int8.ofInt (6)).toInt32 = (6 : Int32) := by decide +kernel
theorem cb_60 : (Int8.ofInt (60)).toInt32 = (60 : Int32) := by decide +kernel
theorem cb_63 : (Int8.ofInt (63)).toInt32 = (63 : Int32) := by decide +kernel
theorem cb_64 : (Int8.ofInt (64)).toInt32 = (64 : Int32) := by decide +kernel
theorem cb_66 : (Int8.ofInt (66)).toInt32 = (66 : Int32) := by decide +kernel
theorem cb_7 : (Int8.ofInt (7)).toInt32 = (7 : Int32) := by decide +kernel
theorem cb_73 : (Int8.ofInt (73)).toInt32 = (73 : Int32) := by decide +kernel
theorem cb_8 : (Int8.ofInt (8)).toInt32 = (8 : Int32) := by decide +kernel
theorem cb_80 : (Int8.ofInt (80)).toInt32 = (80 : Int32) := by decide +kernel
theorem cb_9 : (Int8.ofInt (9)).toInt32 = (9 : Int32) := by decide +kernel
theorem cb_98 : (Int8.ofInt (98)).toInt32 = (98 : Int32) := by decide +kernel
theorem cb_99 : (Int8.ofInt (99)).toInt32 = (99 : Int32) := by decide +kernel
theorem cb_m2 : (Int8.ofInt (-2)).toInt32 = (-2 : Int32) := by decide +kernel
theorem cb_m3 : (Int8.ofInt (-3)).toInt32 = (-3 : Int32) := by decide +kernel
theorem cb_m4 : (Int8.ofInt (-4)).toInt32 = (-4 : Int32) := by decide +kernel
theorem cb_m9 : (Int8.ofInt (-9)).toInt32 = (-9 : Int32) := by decide +kernel
theorem ci_0 : Int32.ofInt (0) = (0 : Int32) := by decide +kernel
theorem ci_1 : Int32.ofInt (1) = (1 : Int32) := by decide +kernel
theorem ci_2 : Int32.ofInt (2) = (2 : Int32) := by decide +kernel
theorem ci_3 : Int32.ofInt (3) = (3 : Int32) := by decide +kernel
theorem ci_4 : Int32.ofInt (4) = (4 : Int32) := by decide +kernel
theorem ci_5 : Int32.ofInt (5) = (5 : Int32) := by decide +kernel
theorem ci_m1 : Int32.ofInt (-1) = (-1 : Int32) := by decide +kernel
theorem cl_0 : Int64.ofNat ((0 : Fin 2) : Nat) = (0 : Int64) := by decide +kernel
theorem cl_1 : Int64.ofNat ((1 : Fin 2) : Nat) = (1 : Int64) := by decide +kernel
theorem cs_1000 : (Int16.ofInt (1000)).toInt32 = (1000 : Int32) := by decide +kernel
theorem cs_128 : (Int16.ofInt (128)).toInt32 = (128 : Int32) := by decide +kernel
theorem cs_2401 : (Int16.ofInt (2401)).toInt32 = (2401 : Int32) := by decide +kernel
theorem cs_280 : (Int16.ofInt (280)).toInt32 = (280 : Int32) := by decide +kernel
theorem cs_393 : (Int16.ofInt (393)).toInt32 = (393 : Int32) := by decide +kernel
theorem cs_600 : (Int16.ofInt (600)).toInt32 = (600 : Int32) := by decide +kernel
theorem cs_m1000 : (Int16.ofInt (-1000)).toInt32 = (-1000 : Int32) := by decide +kernel
theorem cv_X1_101 : aCV RX1 101 yX1_isFreeQuestion 0 mX1_isFreeQuestion 1 := ⟨⟨TX1, 9, rfl⟩, am_mem 495 (by decide +kernel) rfl, am_mem 479 (by decide +kernel) rfl, am_mem 480 (by decide +kernel) rfl, am_mem 55 (by decide +kernel) rfl, am_mem 481 (by decide +kernel) rfl, by decide +kernel, by decide +kernel, by decide +kernel⟩
theorem cv_X1_108 : aCV RX1 108 yX1_meaningOf 0 mX1_meaningOf 1 := ⟨⟨TX1, 9, rfl⟩, am_mem 398 (by decide +kernel) rfl, am_mem 399 (by decide +kernel) rfl, am_mem 400 (by decide +kernel) rfl, am_mem 55 (by decide +kernel) rfl, am_mem 401 (by decide +kernel) rfl, by decide +kernel, by decide +kernel, by decide +kernel⟩
theorem cv_X1_115 : aCV RX1 115 yX1_isFitting 0 mX1_isFitting 2 := ⟨⟨TX1, 9, rfl⟩, am_mem 445 (by decide +kernel) rfl, am_mem 446 (by decide +kernel) rfl, am_mem 447 (by decide +kernel) rfl, am_mem 55 (by decide +kernel) rfl, am_mem 448 (by decide +kernel) rfl, by decide +kernel, by decide +kernel, by decide +kernel⟩
theorem cv_X1_121 : aCV RX1 121 yX1_verdict 0 mX1_verdict 1 := ⟨⟨TX1, 9, rfl⟩, am_mem 516 (by decide +kernel) rfl, am_mem 492 (by decide +kernel) rfl, am_mem 493 (by decide +kernel) rfl, am_mem 55 (by decide +kernel) rfl, am_mem 494 (by decide +kernel) rfl, by decide +kernel, by decide +kernel, by decide +kernel⟩
theorem cv_X1_124 : aCV RX1 124 yX1_yesMeaning 0 mX1_yesMeaning 1 := ⟨⟨TX1, 9, rfl⟩, am_mem 432 (by decide +kernel) rfl, am_mem 434 (by decide +kernel) rfl, am_mem 3 (by decide +kernel) rfl, am_mem 55 (by decide +kernel) rfl, am_mem 435 (by decide +kernel) rfl, by decide +kernel, by decide +kernel, by decide +kernel⟩
theorem cv_X1_127 : aCV RX1 127 yX1_cardsOn 0 mX1_cardsOn 1 := ⟨⟨TX1, 9, rfl⟩, am_mem 437 (by decide +kernel) rfl, am_mem 439 (by decide +kernel) rfl, am_mem 4 (by decide +kernel) rfl, am_mem 55 (by decide +kernel) rfl, am_mem 440 (by decide +kernel) rfl, by decide +kernel, by decide +kernel, by decide +kernel⟩
theorem cv_X1_130 : aCV RX1 130 yX1_questionsFitted 0 mX1_questionsFitted 1 := ⟨⟨TX1, 9, rfl⟩, am_mem 441 (by decide +kernel) rfl, am_mem 442 (by decide +kernel) rfl, am_mem 443 (by decide +kernel) rfl, am_mem 55 (by decide +kernel) rfl, am_mem 444 (by decide +kernel) rfl, by decide +kernel, by decide +kernel, by decide +kernel⟩
theorem cv_X1_133 : aCV RX1 133 yX1_placesSaying 0 mX1_placesSaying 1 := ⟨⟨TX1, 9, rfl⟩, am_mem 449 (by decide +kernel) rfl, am_mem 451 (by decide +kernel) rfl, am_mem 5 (by decide +kernel) rfl, am_mem 55 (by decide +kernel) rfl, am_mem 452 (by decide +kernel) rfl, by decide +kernel, by decide +kernel, by decide +kernel⟩
theorem cv_X1_136 : aCV RX1 136 yX1_firstAlike 0 mX1_firstAlike 3 := ⟨⟨TX1, 9, rfl⟩, am_mem 717 (by decide +kernel) rfl, am_mem 719 (by decide +kernel) rfl, am_mem 18 (by decide +kernel) rfl, am_mem 55 (by decide +kernel) rfl, am_mem 720 (by decide +kernel) rfl, by decide +kernel, by decide +kernel, by decide +kernel⟩
theorem cv_X1_145 : aCV RX1 145 yX1_cardsOfOn 0 mX1_cardsOfOn 2 := ⟨⟨TX1, 9, rfl⟩, am_mem 734 (by decide +kernel) rfl, am_mem 736 (by decide +kernel) rfl, am_mem 20 (by decide +kernel) rfl, am_mem 55 (by decide +kernel) rfl, am_mem 737 (by decide +kernel) rfl, by decide +kernel, by decide +kernel, by decide +kernel⟩
theorem cv_X1_148 : aCV RX1 148 yX1_homeOf 0 mX1_homeOf 1 := ⟨⟨TX1, 9, rfl⟩, am_mem 730 (by decide +kernel) rfl, am_mem 732 (by decide +kernel) rfl, am_mem 19 (by decide +kernel) rfl, am_mem 55 (by decide +kernel) rfl, am_mem 733 (by decide +kernel) rfl, by decide +kernel, by decide +kernel, by decide +kernel⟩
theorem cv_X1_155 : aCV RX1 155 yX4_begin 3 mX4_begin 2 := ⟨⟨TX4, 2, rfl⟩, am_mem 758 (by decide +kernel) rfl, am_mem 300 (by decide +kernel) rfl, am_mem 301 (by decide +kernel) rfl, am_mem 58 (by decide +kernel) rfl, am_mem 302 (by decide +kernel) rfl, by decide +kernel, by decide +kernel, by decide +kernel⟩
theorem cv_X1_158 : aCV RX1 158 yX4_layAt 3 mX4_layAt 2 := ⟨⟨TX4, 2, rfl⟩, am_mem 759 (by decide +kernel) rfl, am_mem 591 (by decide +kernel) rfl, am_mem 592 (by decide +kernel) rfl, am_mem 58 (by decide +kernel) rfl, am_mem 593 (by decide +kernel) rfl, by decide +kernel, by decide +kernel, by decide +kernel⟩
theorem cv_X1_161 : aCV RX1 161 yX1_fittingCards 0 mX1_fittingCards 1 := ⟨⟨TX1, 9, rfl⟩, am_mem 772 (by decide +kernel) rfl, am_mem 470 (by decide +kernel) rfl, am_mem 471 (by decide +kernel) rfl, am_mem 55 (by decide +kernel) rfl, am_mem 472 (by decide +kernel) rfl, by decide +kernel, by decide +kernel, by decide +kernel⟩
theorem cv_X1_164 : aCV RX1 164 yX1_freeCards 0 mX1_freeCards 0 := ⟨⟨TX1, 9, rfl⟩, am_mem 773 (by decide +kernel) rfl, am_mem 545 (by decide +kernel) rfl, am_mem 546 (by decide +kernel) rfl, am_mem 55 (by decide +kernel) rfl, am_mem 547 (by decide +kernel) rfl, by decide +kernel, by decide +kernel, by decide +kernel⟩
theorem cv_X1_169 : aCV RX1 169 yX1_cardFact 0 mX1_cardFact 2 := ⟨⟨TX1, 9, rfl⟩, am_mem 825 (by decide +kernel) rfl, am_mem 395 (by decide +kernel) rfl, am_mem 396 (by decide +kernel) rfl, am_mem 55 (by decide +kernel) rfl, am_mem 397 (by decide +kernel) rfl, by decide +kernel, by decide +kernel, by decide +kernel⟩
theorem cv_X1_172 : aCV RX1 172 yX1_questionFact 0 mX1_questionFact 2 := ⟨⟨TX1, 9, rfl⟩, am_mem 826 (by decide +kernel) rfl, am_mem 418 (by decide +kernel) rfl, am_mem 419 (by decide +kernel) rfl, am_mem 55 (by decide +kernel) rfl, am_mem 420 (by decide +kernel) rfl, by decide +kernel, by decide +kernel, by decide +kernel⟩
theorem cv_X1_44 : aCV RX1 44 yX5_begin 4 mX5_begin 0 := ⟨⟨TX5, 7, rfl⟩, am_mem 186 (by decide +kernel) rfl, am_mem 187 (by decide +kernel) rfl, am_mem 188 (by decide +kernel) rfl, am_mem 56 (by decide +kernel) rfl, am_mem 189 (by decide +kernel) rfl, by decide +kernel, by decide +kernel, by decide +kernel⟩
theorem cv_X1_56 : aCV RX1 56 yX4_reaches 3 mX4_reaches 1 := ⟨⟨TX4, 2, rfl⟩, am_mem 364 (by decide +kernel) rfl, am_mem 316 (by decide +kernel) rfl, am_mem 317 (by decide +kernel) rfl, am_mem 58 (by decide +kernel) rfl, am_mem 318 (by decide +kernel) rfl, by decide +kernel, by decide +kernel, by decide +kernel⟩
theorem cv_X1_63 : aCV RX1 63 yX1_readQuestion 0 mX1_readQuestion 2 := ⟨⟨TX1, 9, rfl⟩, am_mem 365 (by decide +kernel) rfl, am_mem 367 (by decide +kernel) rfl, am_mem 1 (by decide +kernel) rfl, am_mem 55 (by decide +kernel) rfl, am_mem 368 (by decide +kernel) rfl, by decide +kernel, by decide +kernel, by decide +kernel⟩
theorem cv_X1_66 : aCV RX1 66 yX1_readCard 0 mX1_readCard 2 := ⟨⟨TX1, 9, rfl⟩, am_mem 373 (by decide +kernel) rfl, am_mem 375 (by decide +kernel) rfl, am_mem 2 (by decide +kernel) rfl, am_mem 55 (by decide +kernel) rfl, am_mem 376 (by decide +kernel) rfl, by decide +kernel, by decide +kernel, by decide +kernel⟩
theorem cv_X1_91 : aCV RX1 91 yX5_questionOf 4 mX5_questionOf 1 := ⟨⟨TX5, 7, rfl⟩, am_mem 405 (by decide +kernel) rfl, am_mem 406 (by decide +kernel) rfl, am_mem 407 (by decide +kernel) rfl, am_mem 56 (by decide +kernel) rfl, am_mem 408 (by decide +kernel) rfl, by decide +kernel, by decide +kernel, by decide +kernel⟩
theorem cv_X1_97 : aCV RX1 97 yX1_allCards 0 mX1_allCards 0 := ⟨⟨TX1, 9, rfl⟩, am_mem 548 (by decide +kernel) rfl, am_mem 549 (by decide +kernel) rfl, am_mem 550 (by decide +kernel) rfl, am_mem 55 (by decide +kernel) rfl, am_mem 551 (by decide +kernel) rfl, by decide +kernel, by decide +kernel, by decide +kernel⟩
theorem cv_X2_105 : aCV RX2 105 yX2_mostFrom 1 mX2_mostFrom 3 := ⟨⟨TX2, 8, rfl⟩, am_mem 603 (by decide +kernel) rfl, am_mem 605 (by decide +kernel) rfl, am_mem 12 (by decide +kernel) rfl, am_mem 53 (by decide +kernel) rfl, am_mem 606 (by decide +kernel) rfl, by decide +kernel, by decide +kernel, by decide +kernel⟩
theorem cv_X2_109 : aCV RX2 109 yX2_firstWished 1 mX2_firstWished 3 := ⟨⟨TX2, 8, rfl⟩, am_mem 607 (by decide +kernel) rfl, am_mem 609 (by decide +kernel) rfl, am_mem 13 (by decide +kernel) rfl, am_mem 53 (by decide +kernel) rfl, am_mem 610 (by decide +kernel) rfl, by decide +kernel, by decide +kernel, by decide +kernel⟩
theorem cv_X2_37 : aCV RX2 37 yX2_countAhead 1 mX2_countAhead 1 := ⟨⟨TX2, 8, rfl⟩, am_mem 540 (by decide +kernel) rfl, am_mem 542 (by decide +kernel) rfl, am_mem 6 (by decide +kernel) rfl, am_mem 53 (by decide +kernel) rfl, am_mem 543 (by decide +kernel) rfl, by decide +kernel, by decide +kernel, by decide +kernel⟩
theorem cv_X2_41 : aCV RX2 41 yX2_mostPairs 1 mX2_mostPairs 0 := ⟨⟨TX2, 8, rfl⟩, am_mem 562 (by decide +kernel) rfl, am_mem 564 (by decide +kernel) rfl, am_mem 8 (by decide +kernel) rfl, am_mem 53 (by decide +kernel) rfl, am_mem 565 (by decide +kernel) rfl, by decide +kernel, by decide +kernel, by decide +kernel⟩
theorem cv_X2_45 : aCV RX2 45 yX2_countOn 1 mX2_countOn 0 := ⟨⟨TX2, 8, rfl⟩, am_mem 573 (by decide +kernel) rfl, am_mem 575 (by decide +kernel) rfl, am_mem 9 (by decide +kernel) rfl, am_mem 53 (by decide +kernel) rfl, am_mem 576 (by decide +kernel) rfl, by decide +kernel, by decide +kernel, by decide +kernel⟩
theorem cv_X2_52 : aCV RX2 52 yX1_freeCards 0 mX1_freeCards 0 := ⟨⟨TX1, 9, rfl⟩, am_mem 544 (by decide +kernel) rfl, am_mem 545 (by decide +kernel) rfl, am_mem 546 (by decide +kernel) rfl, am_mem 55 (by decide +kernel) rfl, am_mem 547 (by decide +kernel) rfl, by decide +kernel, by decide +kernel, by decide +kernel⟩
theorem cv_X2_61 : aCV RX2 61 yX1_isFreeQuestion 0 mX1_isFreeQuestion 1 := ⟨⟨TX1, 9, rfl⟩, am_mem 553 (by decide +kernel) rfl, am_mem 479 (by decide +kernel) rfl, am_mem 480 (by decide +kernel) rfl, am_mem 55 (by decide +kernel) rfl, am_mem 481 (by decide +kernel) rfl, by decide +kernel, by decide +kernel, by decide +kernel⟩
theorem cv_X2_65 : aCV RX2 65 yX1_trueCards 0 mX1_trueCards 1 := ⟨⟨TX1, 9, rfl⟩, am_mem 554 (by decide +kernel) rfl, am_mem 555 (by decide +kernel) rfl, am_mem 556 (by decide +kernel) rfl, am_mem 55 (by decide +kernel) rfl, am_mem 557 (by decide +kernel) rfl, by decide +kernel, by decide +kernel, by decide +kernel⟩
theorem cv_X2_69 : aCV RX2 69 yX2_spreadAhead 1 mX2_spreadAhead 3 := ⟨⟨TX2, 8, rfl⟩, am_mem 558 (by decide +kernel) rfl, am_mem 560 (by decide +kernel) rfl, am_mem 7 (by decide +kernel) rfl, am_mem 53 (by decide +kernel) rfl, am_mem 561 (by decide +kernel) rfl, by decide +kernel, by decide +kernel, by decide +kernel⟩
theorem cv_X2_84 : aCV RX2 84 yX2_waysFrom 1 mX2_waysFrom 2 := ⟨⟨TX2, 8, rfl⟩, am_mem 577 (by decide +kernel) rfl, am_mem 579 (by decide +kernel) rfl, am_mem 10 (by decide +kernel) rfl, am_mem 53 (by decide +kernel) rfl, am_mem 580 (by decide +kernel) rfl, by decide +kernel, by decide +kernel, by decide +kernel⟩
theorem cv_X2_87 : aCV RX2 87 yX2_countWith 1 mX2_countWith 2 := ⟨⟨TX2, 8, rfl⟩, am_mem 619 (by decide +kernel) rfl, am_mem 620 (by decide +kernel) rfl, am_mem 621 (by decide +kernel) rfl, am_mem 53 (by decide +kernel) rfl, am_mem 622 (by decide +kernel) rfl, by decide +kernel, by decide +kernel, by decide +kernel⟩
theorem cv_X2_90 : aCV RX2 90 yX4_begin 3 mX4_begin 2 := ⟨⟨TX4, 2, rfl⟩, am_mem 585 (by decide +kernel) rfl, am_mem 300 (by decide +kernel) rfl, am_mem 301 (by decide +kernel) rfl, am_mem 58 (by decide +kernel) rfl, am_mem 302 (by decide +kernel) rfl, by decide +kernel, by decide +kernel, by decide +kernel⟩
theorem cv_X2_96 : aCV RX2 96 yX2_firstFullest 1 mX2_firstFullest 2 := ⟨⟨TX2, 8, rfl⟩, am_mem 586 (by decide +kernel) rfl, am_mem 588 (by decide +kernel) rfl, am_mem 11 (by decide +kernel) rfl, am_mem 53 (by decide +kernel) rfl, am_mem 589 (by decide +kernel) rfl, by decide +kernel, by decide +kernel, by decide +kernel⟩
theorem cv_X2_99 : aCV RX2 99 yX4_layAt 3 mX4_layAt 2 := ⟨⟨TX4, 2, rfl⟩, am_mem 590 (by decide +kernel) rfl, am_mem 591 (by decide +kernel) rfl, am_mem 592 (by decide +kernel) rfl, am_mem 58 (by decide +kernel) rfl, am_mem 593 (by decide +kernel) rfl, by decide +kernel, by decide +kernel, by decide +kernel⟩
theorem cv_X3_37 : aCV RX3 37 yX3_countMeanings 2 mX3_countMeanings 2 := ⟨⟨TX3, 7, rfl⟩, am_mem 670 (by decide +kernel) rfl, am_mem 672 (by decide +kernel) rfl, am_mem 15 (by decide +kernel) rfl, am_mem 54 (by decide +kernel) rfl, am_mem 673 (by decide +kernel) rfl, by decide +kernel, by decide +kernel, by decide +kernel⟩
theorem cv_X3_46 : aCV RX3 46 yX3_partFrom 2 mX3_partFrom 3 := ⟨⟨TX3, 7, rfl⟩, am_mem 677 (by decide +kernel) rfl, am_mem 679 (by decide +kernel) rfl, am_mem 16 (by decide +kernel) rfl, am_mem 54 (by decide +kernel) rfl, am_mem 680 (by decide +kernel) rfl, by decide +kernel, by decide +kernel, by decide +kernel⟩
theorem cv_X3_65 : aCV RX3 65 yX1_meaningOf 0 mX1_meaningOf 1 := ⟨⟨TX1, 9, rfl⟩, am_mem 676 (by decide +kernel) rfl, am_mem 399 (by decide +kernel) rfl, am_mem 400 (by decide +kernel) rfl, am_mem 55 (by decide +kernel) rfl, am_mem 401 (by decide +kernel) rfl, by decide +kernel, by decide +kernel, by decide +kernel⟩
theorem cv_X3_77 : aCV RX3 77 yX1_fittingCards 0 mX1_fittingCards 1 := ⟨⟨TX1, 9, rfl⟩, am_mem 692 (by decide +kernel) rfl, am_mem 470 (by decide +kernel) rfl, am_mem 471 (by decide +kernel) rfl, am_mem 55 (by decide +kernel) rfl, am_mem 472 (by decide +kernel) rfl, by decide +kernel, by decide +kernel, by decide +kernel⟩
theorem cv_X3_80 : aCV RX3 80 yX3_fewestFor 2 mX3_fewestFor 2 := ⟨⟨TX3, 7, rfl⟩, am_mem 693 (by decide +kernel) rfl, am_mem 695 (by decide +kernel) rfl, am_mem 17 (by decide +kernel) rfl, am_mem 54 (by decide +kernel) rfl, am_mem 696 (by decide +kernel) rfl, by decide +kernel, by decide +kernel, by decide +kernel⟩
theorem cv_X4_34 : aCV RX4 34 yX4_reaches 3 mX4_reaches 1 := ⟨⟨TX4, 2, rfl⟩, am_mem 594 (by decide +kernel) rfl, am_mem 316 (by decide +kernel) rfl, am_mem 317 (by decide +kernel) rfl, am_mem 58 (by decide +kernel) rfl, am_mem 318 (by decide +kernel) rfl, by decide +kernel, by decide +kernel, by decide +kernel⟩
theorem cv_X6_108 : aCV RX6 108 yX1_readFrom 0 mX1_readFrom 1 := ⟨⟨TX1, 9, rfl⟩, am_mem 357 (by decide +kernel) rfl, am_mem 358 (by decide +kernel) rfl, am_mem 359 (by decide +kernel) rfl, am_mem 55 (by decide +kernel) rfl, am_mem 360 (by decide +kernel) rfl, by decide +kernel, by decide +kernel, by decide +kernel⟩
theorem cv_X6_118 : aCV RX6 118 yX1_isCard 0 mX1_isCard 1 := ⟨⟨TX1, 9, rfl⟩, am_mem 390 (by decide +kernel) rfl, am_mem 391 (by decide +kernel) rfl, am_mem 392 (by decide +kernel) rfl, am_mem 55 (by decide +kernel) rfl, am_mem 393 (by decide +kernel) rfl, by decide +kernel, by decide +kernel, by decide +kernel⟩
theorem cv_X6_121 : aCV RX6 121 yX1_cardFact 0 mX1_cardFact 2 := ⟨⟨TX1, 9, rfl⟩, am_mem 394 (by decide +kernel) rfl, am_mem 395 (by decide +kernel) rfl, am_mem 396 (by decide +kernel) rfl, am_mem 55 (by decide +kernel) rfl, am_mem 397 (by decide +kernel) rfl, by decide +kernel, by decide +kernel, by decide +kernel⟩
theorem cv_X6_125 : aCV RX6 125 yX1_isQuestion 0 mX1_isQuestion 1 := ⟨⟨TX1, 9, rfl⟩, am_mem 413 (by decide +kernel) rfl, am_mem 414 (by decide +kernel) rfl, am_mem 415 (by decide +kernel) rfl, am_mem 55 (by decide +kernel) rfl, am_mem 416 (by decide +kernel) rfl, by decide +kernel, by decide +kernel, by decide +kernel⟩
theorem cv_X6_128 : aCV RX6 128 yX1_questionFact 0 mX1_questionFact 2 := ⟨⟨TX1, 9, rfl⟩, am_mem 417 (by decide +kernel) rfl, am_mem 418 (by decide +kernel) rfl, am_mem 419 (by decide +kernel) rfl, am_mem 55 (by decide +kernel) rfl, am_mem 420 (by decide +kernel) rfl, by decide +kernel, by decide +kernel, by decide +kernel⟩
theorem cv_X6_139 : aCV RX6 139 yX1_markOf 0 mX1_markOf 2 := ⟨⟨TX1, 9, rfl⟩, am_mem 428 (by decide +kernel) rfl, am_mem 429 (by decide +kernel) rfl, am_mem 430 (by decide +kernel) rfl, am_mem 55 (by decide +kernel) rfl, am_mem 431 (by decide +kernel) rfl, by decide +kernel, by decide +kernel, by decide +kernel⟩
theorem cv_X6_155 : aCV RX6 155 yX1_fittingCards 0 mX1_fittingCards 1 := ⟨⟨TX1, 9, rfl⟩, am_mem 469 (by decide +kernel) rfl, am_mem 470 (by decide +kernel) rfl, am_mem 471 (by decide +kernel) rfl, am_mem 55 (by decide +kernel) rfl, am_mem 472 (by decide +kernel) rfl, by decide +kernel, by decide +kernel, by decide +kernel⟩
theorem cv_X6_158 : aCV RX6 158 yX1_isFitting 0 mX1_isFitting 2 := ⟨⟨TX1, 9, rfl⟩, am_mem 477 (by decide +kernel) rfl, am_mem 446 (by decide +kernel) rfl, am_mem 447 (by decide +kernel) rfl, am_mem 55 (by decide +kernel) rfl, am_mem 448 (by decide +kernel) rfl, by decide +kernel, by decide +kernel, by decide +kernel⟩
theorem cv_X6_161 : aCV RX6 161 yX1_isFreeQuestion 0 mX1_isFreeQuestion 1 := ⟨⟨TX1, 9, rfl⟩, am_mem 478 (by decide +kernel) rfl, am_mem 479 (by decide +kernel) rfl, am_mem 480 (by decide +kernel) rfl, am_mem 55 (by decide +kernel) rfl, am_mem 481 (by decide +kernel) rfl, by decide +kernel, by decide +kernel, by decide +kernel⟩
theorem cv_X6_164 : aCV RX6 164 yX1_isFreeCard 0 mX1_isFreeCard 1 := ⟨⟨TX1, 9, rfl⟩, am_mem 482 (by decide +kernel) rfl, am_mem 483 (by decide +kernel) rfl, am_mem 484 (by decide +kernel) rfl, am_mem 55 (by decide +kernel) rfl, am_mem 485 (by decide +kernel) rfl, by decide +kernel, by decide +kernel, by decide +kernel⟩
theorem cv_X6_167 : aCV RX6 167 yX5_addTaking 4 mX5_addTaking 2 := ⟨⟨TX5, 7, rfl⟩, am_mem 486 (by decide +kernel) rfl, am_mem 487 (by decide +kernel) rfl, am_mem 488 (by decide +kernel) rfl, am_mem 56 (by decide +kernel) rfl, am_mem 489 (by decide +kernel) rfl, by decide +kernel, by decide +kernel, by decide +kernel⟩
theorem cv_X6_170 : aCV RX6 170 yX1_verdict 0 mX1_verdict 1 := ⟨⟨TX1, 9, rfl⟩, am_mem 491 (by decide +kernel) rfl, am_mem 492 (by decide +kernel) rfl, am_mem 493 (by decide +kernel) rfl, am_mem 55 (by decide +kernel) rfl, am_mem 494 (by decide +kernel) rfl, by decide +kernel, by decide +kernel, by decide +kernel⟩
theorem cv_X6_176 : aCV RX6 176 yX5_goBack 4 mX5_goBack 1 := ⟨⟨TX5, 7, rfl⟩, am_mem 504 (by decide +kernel) rfl, am_mem 505 (by decide +kernel) rfl, am_mem 506 (by decide +kernel) rfl, am_mem 56 (by decide +kernel) rfl, am_mem 507 (by decide +kernel) rfl, by decide +kernel, by decide +kernel, by decide +kernel⟩
theorem cv_X6_179 : aCV RX6 179 yX1_answeredWith 0 mX1_answeredWith 1 := ⟨⟨TX1, 9, rfl⟩, am_mem 512 (by decide +kernel) rfl, am_mem 513 (by decide +kernel) rfl, am_mem 514 (by decide +kernel) rfl, am_mem 55 (by decide +kernel) rfl, am_mem 515 (by decide +kernel) rfl, by decide +kernel, by decide +kernel, by decide +kernel⟩
theorem cv_X6_185 : aCV RX6 185 yX5_become 4 mX5_become 1 := ⟨⟨TX5, 7, rfl⟩, am_mem 524 (by decide +kernel) rfl, am_mem 525 (by decide +kernel) rfl, am_mem 526 (by decide +kernel) rfl, am_mem 56 (by decide +kernel) rfl, am_mem 527 (by decide +kernel) rfl, by decide +kernel, by decide +kernel, by decide +kernel⟩
theorem cv_X6_189 : aCV RX6 189 yX2_countIn 1 mX2_countIn 1 := ⟨⟨TX2, 8, rfl⟩, am_mem 536 (by decide +kernel) rfl, am_mem 537 (by decide +kernel) rfl, am_mem 538 (by decide +kernel) rfl, am_mem 53 (by decide +kernel) rfl, am_mem 539 (by decide +kernel) rfl, by decide +kernel, by decide +kernel, by decide +kernel⟩
theorem cv_X6_193 : aCV RX6 193 yX2_layFullest 1 mX2_layFullest 1 := ⟨⟨TX2, 8, rfl⟩, am_mem 581 (by decide +kernel) rfl, am_mem 582 (by decide +kernel) rfl, am_mem 583 (by decide +kernel) rfl, am_mem 53 (by decide +kernel) rfl, am_mem 584 (by decide +kernel) rfl, by decide +kernel, by decide +kernel, by decide +kernel⟩
theorem cv_X6_200 : aCV RX6 200 yX2_layMostWished 1 mX2_layMostWished 2 := ⟨⟨TX2, 8, rfl⟩, am_mem 599 (by decide +kernel) rfl, am_mem 600 (by decide +kernel) rfl, am_mem 601 (by decide +kernel) rfl, am_mem 53 (by decide +kernel) rfl, am_mem 602 (by decide +kernel) rfl, by decide +kernel, by decide +kernel, by decide +kernel⟩
theorem cv_X6_207 : aCV RX6 207 yX2_sureCard 1 mX2_sureCard 1 := ⟨⟨TX2, 8, rfl⟩, am_mem 615 (by decide +kernel) rfl, am_mem 616 (by decide +kernel) rfl, am_mem 617 (by decide +kernel) rfl, am_mem 53 (by decide +kernel) rfl, am_mem 618 (by decide +kernel) rfl, by decide +kernel, by decide +kernel, by decide +kernel⟩
theorem cv_X6_213 : aCV RX6 213 yX2_countWith 1 mX2_countWith 2 := ⟨⟨TX2, 8, rfl⟩, am_mem 627 (by decide +kernel) rfl, am_mem 620 (by decide +kernel) rfl, am_mem 621 (by decide +kernel) rfl, am_mem 53 (by decide +kernel) rfl, am_mem 622 (by decide +kernel) rfl, by decide +kernel, by decide +kernel, by decide +kernel⟩
theorem cv_X6_221 : aCV RX6 221 yX6_tellChances 5 mX6_tellChances 2 := ⟨⟨TX6, 12, rfl⟩, am_mem 641 (by decide +kernel) rfl, am_mem 643 (by decide +kernel) rfl, am_mem 14 (by decide +kernel) rfl, am_mem 52 (by decide +kernel) rfl, am_mem 644 (by decide +kernel) rfl, by decide +kernel, by decide +kernel, by decide +kernel⟩
theorem cv_X6_225 : aCV RX6 225 yX1_waysOfTruth 0 mX1_waysOfTruth 1 := ⟨⟨TX1, 9, rfl⟩, am_mem 652 (by decide +kernel) rfl, am_mem 653 (by decide +kernel) rfl, am_mem 654 (by decide +kernel) rfl, am_mem 55 (by decide +kernel) rfl, am_mem 655 (by decide +kernel) rfl, by decide +kernel, by decide +kernel, by decide +kernel⟩
theorem cv_X6_228 : aCV RX6 228 yX1_trueCards 0 mX1_trueCards 1 := ⟨⟨TX1, 9, rfl⟩, am_mem 660 (by decide +kernel) rfl, am_mem 555 (by decide +kernel) rfl, am_mem 556 (by decide +kernel) rfl, am_mem 55 (by decide +kernel) rfl, am_mem 557 (by decide +kernel) rfl, by decide +kernel, by decide +kernel, by decide +kernel⟩
theorem cv_X6_231 : aCV RX6 231 yX3_partBest 2 mX3_partBest 1 := ⟨⟨TX3, 7, rfl⟩, am_mem 665 (by decide +kernel) rfl, am_mem 666 (by decide +kernel) rfl, am_mem 667 (by decide +kernel) rfl, am_mem 54 (by decide +kernel) rfl, am_mem 668 (by decide +kernel) rfl, by decide +kernel, by decide +kernel, by decide +kernel⟩
theorem cv_X6_240 : aCV RX6 240 yX3_findIn 2 mX3_findIn 2 := ⟨⟨TX3, 7, rfl⟩, am_mem 688 (by decide +kernel) rfl, am_mem 689 (by decide +kernel) rfl, am_mem 690 (by decide +kernel) rfl, am_mem 54 (by decide +kernel) rfl, am_mem 691 (by decide +kernel) rfl, by decide +kernel, by decide +kernel, by decide +kernel⟩
theorem cv_X6_247 : aCV RX6 247 yX1_allCards 0 mX1_allCards 0 := ⟨⟨TX1, 9, rfl⟩, am_mem 703 (by decide +kernel) rfl, am_mem 549 (by decide +kernel) rfl, am_mem 550 (by decide +kernel) rfl, am_mem 55 (by decide +kernel) rfl, am_mem 551 (by decide +kernel) rfl, by decide +kernel, by decide +kernel, by decide +kernel⟩
theorem cv_X6_251 : aCV RX6 251 yX1_questionsFitted 0 mX1_questionsFitted 1 := ⟨⟨TX1, 9, rfl⟩, am_mem 708 (by decide +kernel) rfl, am_mem 442 (by decide +kernel) rfl, am_mem 443 (by decide +kernel) rfl, am_mem 55 (by decide +kernel) rfl, am_mem 444 (by decide +kernel) rfl, by decide +kernel, by decide +kernel, by decide +kernel⟩
theorem cv_X6_254 : aCV RX6 254 yX1_pairsWith 0 mX1_pairsWith 2 := ⟨⟨TX1, 9, rfl⟩, am_mem 713 (by decide +kernel) rfl, am_mem 714 (by decide +kernel) rfl, am_mem 715 (by decide +kernel) rfl, am_mem 55 (by decide +kernel) rfl, am_mem 716 (by decide +kernel) rfl, by decide +kernel, by decide +kernel, by decide +kernel⟩
theorem cv_X6_258 : aCV RX6 258 yX1_strayCards 0 mX1_strayCards 0 := ⟨⟨TX1, 9, rfl⟩, am_mem 726 (by decide +kernel) rfl, am_mem 727 (by decide +kernel) rfl, am_mem 728 (by decide +kernel) rfl, am_mem 55 (by decide +kernel) rfl, am_mem 729 (by decide +kernel) rfl, by decide +kernel, by decide +kernel, by decide +kernel⟩
theorem cv_X6_266 : aCV RX6 266 yX1_fewestMoved 0 mX1_fewestMoved 0 := ⟨⟨TX1, 9, rfl⟩, am_mem 743 (by decide +kernel) rfl, am_mem 744 (by decide +kernel) rfl, am_mem 745 (by decide +kernel) rfl, am_mem 55 (by decide +kernel) rfl, am_mem 746 (by decide +kernel) rfl, by decide +kernel, by decide +kernel, by decide +kernel⟩
theorem cv_X6_269 : aCV RX6 269 yX1_layByAge 0 mX1_layByAge 1 := ⟨⟨TX1, 9, rfl⟩, am_mem 754 (by decide +kernel) rfl, am_mem 755 (by decide +kernel) rfl, am_mem 756 (by decide +kernel) rfl, am_mem 55 (by decide +kernel) rfl, am_mem 757 (by decide +kernel) rfl, by decide +kernel, by decide +kernel, by decide +kernel⟩
theorem cv_X6_279 : aCV RX6 279 yX1_cardByLot 0 mX1_cardByLot 2 := ⟨⟨TX1, 9, rfl⟩, am_mem 768 (by decide +kernel) rfl, am_mem 769 (by decide +kernel) rfl, am_mem 770 (by decide +kernel) rfl, am_mem 55 (by decide +kernel) rfl, am_mem 771 (by decide +kernel) rfl, by decide +kernel, by decide +kernel, by decide +kernel⟩
theorem cv_X6_283 : aCV RX6 283 yX1_answered 0 mX1_answered 0 := ⟨⟨TX1, 9, rfl⟩, am_mem 790 (by decide +kernel) rfl, am_mem 791 (by decide +kernel) rfl, am_mem 792 (by decide +kernel) rfl, am_mem 55 (by decide +kernel) rfl, am_mem 793 (by decide +kernel) rfl, by decide +kernel, by decide +kernel, by decide +kernel⟩
theorem cv_X6_286 : aCV RX6 286 yX1_placesAmong 0 mX1_placesAmong 0 := ⟨⟨TX1, 9, rfl⟩, am_mem 794 (by decide +kernel) rfl, am_mem 795 (by decide +kernel) rfl, am_mem 796 (by decide +kernel) rfl, am_mem 55 (by decide +kernel) rfl, am_mem 797 (by decide +kernel) rfl, by decide +kernel, by decide +kernel, by decide +kernel⟩
theorem cv_X6_293 : aCV RX6 293 yX6_keptThere 5 mX6_keptThere 0 := ⟨⟨TX6, 12, rfl⟩, am_mem 801 (by decide +kernel) rfl, am_mem 803 (by decide +kernel) rfl, am_mem 21 (by decide +kernel) rfl, am_mem 52 (by decide +kernel) rfl, am_mem 804 (by decide +kernel) rfl, by decide +kernel, by decide +kernel, by decide +kernel⟩
theorem cv_X6_300 : aCV RX6 300 yX6_count 5 mX6_count 1 := ⟨⟨TX6, 12, rfl⟩, am_mem 819 (by decide +kernel) rfl, am_mem 787 (by decide +kernel) rfl, am_mem 788 (by decide +kernel) rfl, am_mem 52 (by decide +kernel) rfl, am_mem 789 (by decide +kernel) rfl, by decide +kernel, by decide +kernel, by decide +kernel⟩
theorem cv_X6_303 : aCV RX6 303 yX1_foldInto 0 mX1_foldInto 1 := ⟨⟨TX1, 9, rfl⟩, am_mem 820 (by decide +kernel) rfl, am_mem 821 (by decide +kernel) rfl, am_mem 822 (by decide +kernel) rfl, am_mem 55 (by decide +kernel) rfl, am_mem 823 (by decide +kernel) rfl, by decide +kernel, by decide +kernel, by decide +kernel⟩
theorem cv_X6_307 : aCV RX6 307 yX4_foldInto 3 mX4_foldInto 1 := ⟨⟨TX4, 2, rfl⟩, am_mem 827 (by decide +kernel) rfl, am_mem 828 (by decide +kernel) rfl, am_mem 829 (by decide +kernel) rfl, am_mem 58 (by decide +kernel) rfl, am_mem 830 (by decide +kernel) rfl, by decide +kernel, by decide +kernel, by decide +kernel⟩
theorem cv_X6_74 : aCV RX6 74 yX6_found 5 mX6_found 1 := ⟨⟨TX6, 12, rfl⟩, am_mem 295 (by decide +kernel) rfl, am_mem 297 (by decide +kernel) rfl, am_mem 0 (by decide +kernel) rfl, am_mem 52 (by decide +kernel) rfl, am_mem 298 (by decide +kernel) rfl, by decide +kernel, by decide +kernel, by decide +kernel⟩
theorem cv_X6_78 : aCV RX6 78 yX4_begin 3 mX4_begin 2 := ⟨⟨TX4, 2, rfl⟩, am_mem 299 (by decide +kernel) rfl, am_mem 300 (by decide +kernel) rfl, am_mem 301 (by decide +kernel) rfl, am_mem 58 (by decide +kernel) rfl, am_mem 302 (by decide +kernel) rfl, by decide +kernel, by decide +kernel, by decide +kernel⟩
theorem cv_X6_82 : aCV RX6 82 yX4_isThere 3 mX4_isThere 0 := ⟨⟨TX4, 2, rfl⟩, am_mem 311 (by decide +kernel) rfl, am_mem 312 (by decide +kernel) rfl, am_mem 313 (by decide +kernel) rfl, am_mem 58 (by decide +kernel) rfl, am_mem 314 (by decide +kernel) rfl, by decide +kernel, by decide +kernel, by decide +kernel⟩
theorem cv_X6_86 : aCV RX6 86 yX4_reaches 3 mX4_reaches 1 := ⟨⟨TX4, 2, rfl⟩, am_mem 315 (by decide +kernel) rfl, am_mem 316 (by decide +kernel) rfl, am_mem 317 (by decide +kernel) rfl, am_mem 58 (by decide +kernel) rfl, am_mem 318 (by decide +kernel) rfl, by decide +kernel, by decide +kernel, by decide +kernel⟩
theorem cv_X6_95 : aCV RX6 95 yX4_holds 3 mX4_holds 2 := ⟨⟨TX4, 2, rfl⟩, am_mem 331 (by decide +kernel) rfl, am_mem 332 (by decide +kernel) rfl, am_mem 333 (by decide +kernel) rfl, am_mem 58 (by decide +kernel) rfl, am_mem 334 (by decide +kernel) rfl, by decide +kernel, by decide +kernel, by decide +kernel⟩
theorem cv_X7_103 : aCV RX7 103 yX7_takesQuestion 6 mX7_takesQuestion 1 := ⟨⟨TX7, 21, rfl⟩, am_mem 968 (by decide +kernel) rfl, am_mem 970 (by decide +kernel) rfl, am_mem 26 (by decide +kernel) rfl, am_mem 60 (by decide +kernel) rfl, am_mem 971 (by decide +kernel) rfl, by decide +kernel, by decide +kernel, by decide +kernel⟩
theorem cv_X7_106 : aCV RX7 106 yX7_takesCard 6 mX7_takesCard 1 := ⟨⟨TX7, 21, rfl⟩, am_mem 976 (by decide +kernel) rfl, am_mem 978 (by decide +kernel) rfl, am_mem 28 (by decide +kernel) rfl, am_mem 60 (by decide +kernel) rfl, am_mem 979 (by decide +kernel) rfl, by decide +kernel, by decide +kernel, by decide +kernel⟩
theorem cv_X7_109 : aCV RX7 109 yX7_reads 6 mX7_reads 1 := ⟨⟨TX7, 21, rfl⟩, am_mem 958 (by decide +kernel) rfl, am_mem 960 (by decide +kernel) rfl, am_mem 24 (by decide +kernel) rfl, am_mem 60 (by decide +kernel) rfl, am_mem 961 (by decide +kernel) rfl, by decide +kernel, by decide +kernel, by decide +kernel⟩
theorem cv_X7_120 : aCV RX7 120 yX7_means 6 mX7_means 1 := ⟨⟨TX7, 21, rfl⟩, am_mem 1002 (by decide +kernel) rfl, am_mem 1004 (by decide +kernel) rfl, am_mem 31 (by decide +kernel) rfl, am_mem 60 (by decide +kernel) rfl, am_mem 1005 (by decide +kernel) rfl, by decide +kernel, by decide +kernel, by decide +kernel⟩
theorem cv_X7_123 : aCV RX7 123 yX7_suits 6 mX7_suits 4 := ⟨⟨TX7, 21, rfl⟩, am_mem 1029 (by decide +kernel) rfl, am_mem 1031 (by decide +kernel) rfl, am_mem 35 (by decide +kernel) rfl, am_mem 60 (by decide +kernel) rfl, am_mem 1032 (by decide +kernel) rfl, by decide +kernel, by decide +kernel, by decide +kernel⟩
theorem cv_X7_126 : aCV RX7 126 yX7_answers 6 mX7_answers 1 := ⟨⟨TX7, 21, rfl⟩, am_mem 1006 (by decide +kernel) rfl, am_mem 1008 (by decide +kernel) rfl, am_mem 32 (by decide +kernel) rfl, am_mem 60 (by decide +kernel) rfl, am_mem 1009 (by decide +kernel) rfl, by decide +kernel, by decide +kernel, by decide +kernel⟩
theorem cv_X7_129 : aCV RX7 129 yX7_isCard 6 mX7_isCard 1 := ⟨⟨TX7, 21, rfl⟩, am_mem 994 (by decide +kernel) rfl, am_mem 996 (by decide +kernel) rfl, am_mem 29 (by decide +kernel) rfl, am_mem 60 (by decide +kernel) rfl, am_mem 997 (by decide +kernel) rfl, by decide +kernel, by decide +kernel, by decide +kernel⟩
theorem cv_X7_132 : aCV RX7 132 yX7_toldCard 6 mX7_toldCard 2 := ⟨⟨TX7, 21, rfl⟩, am_mem 998 (by decide +kernel) rfl, am_mem 1000 (by decide +kernel) rfl, am_mem 30 (by decide +kernel) rfl, am_mem 60 (by decide +kernel) rfl, am_mem 1001 (by decide +kernel) rfl, by decide +kernel, by decide +kernel, by decide +kernel⟩
theorem cv_X7_136 : aCV RX7 136 yX7_isQuestion 6 mX7_isQuestion 1 := ⟨⟨TX7, 21, rfl⟩, am_mem 1014 (by decide +kernel) rfl, am_mem 1016 (by decide +kernel) rfl, am_mem 33 (by decide +kernel) rfl, am_mem 60 (by decide +kernel) rfl, am_mem 1017 (by decide +kernel) rfl, by decide +kernel, by decide +kernel, by decide +kernel⟩
theorem cv_X7_139 : aCV RX7 139 yX7_isFit 6 mX7_isFit 2 := ⟨⟨TX7, 21, rfl⟩, am_mem 1025 (by decide +kernel) rfl, am_mem 1027 (by decide +kernel) rfl, am_mem 34 (by decide +kernel) rfl, am_mem 60 (by decide +kernel) rfl, am_mem 1028 (by decide +kernel) rfl, by decide +kernel, by decide +kernel, by decide +kernel⟩
theorem cv_X7_142 : aCV RX7 142 yX7_puts 6 mX7_puts 2 := ⟨⟨TX7, 21, rfl⟩, am_mem 1037 (by decide +kernel) rfl, am_mem 1039 (by decide +kernel) rfl, am_mem 36 (by decide +kernel) rfl, am_mem 60 (by decide +kernel) rfl, am_mem 1040 (by decide +kernel) rfl, by decide +kernel, by decide +kernel, by decide +kernel⟩
theorem cv_X7_147 : aCV RX7 147 yX7_isFree 6 mX7_isFree 1 := ⟨⟨TX7, 21, rfl⟩, am_mem 1058 (by decide +kernel) rfl, am_mem 1060 (by decide +kernel) rfl, am_mem 37 (by decide +kernel) rfl, am_mem 60 (by decide +kernel) rfl, am_mem 1061 (by decide +kernel) rfl, by decide +kernel, by decide +kernel, by decide +kernel⟩
theorem cv_X7_150 : aCV RX7 150 yX7_isFreeCard 6 mX7_isFreeCard 1 := ⟨⟨TX7, 21, rfl⟩, am_mem 1062 (by decide +kernel) rfl, am_mem 1064 (by decide +kernel) rfl, am_mem 38 (by decide +kernel) rfl, am_mem 60 (by decide +kernel) rfl, am_mem 1065 (by decide +kernel) rfl, by decide +kernel, by decide +kernel, by decide +kernel⟩
theorem cv_X7_153 : aCV RX7 153 yX7_takesIt 6 mX7_takesIt 2 := ⟨⟨TX7, 21, rfl⟩, am_mem 1066 (by decide +kernel) rfl, am_mem 1068 (by decide +kernel) rfl, am_mem 39 (by decide +kernel) rfl, am_mem 60 (by decide +kernel) rfl, am_mem 1069 (by decide +kernel) rfl, by decide +kernel, by decide +kernel, by decide +kernel⟩
theorem cv_X7_157 : aCV RX7 157 yX7_stands 6 mX7_stands 1 := ⟨⟨TX7, 21, rfl⟩, am_mem 1070 (by decide +kernel) rfl, am_mem 1072 (by decide +kernel) rfl, am_mem 40 (by decide +kernel) rfl, am_mem 60 (by decide +kernel) rfl, am_mem 1073 (by decide +kernel) rfl, by decide +kernel, by decide +kernel, by decide +kernel⟩
theorem cv_X7_160 : aCV RX7 160 yX7_standing 6 mX7_standing 1 := ⟨⟨TX7, 21, rfl⟩, am_mem 1086 (by decide +kernel) rfl, am_mem 1088 (by decide +kernel) rfl, am_mem 41 (by decide +kernel) rfl, am_mem 60 (by decide +kernel) rfl, am_mem 1089 (by decide +kernel) rfl, by decide +kernel, by decide +kernel, by decide +kernel⟩
theorem cv_X7_168 : aCV RX7 168 yX7_counts 6 mX7_counts 1 := ⟨⟨TX7, 21, rfl⟩, am_mem 1107 (by decide +kernel) rfl, am_mem 1109 (by decide +kernel) rfl, am_mem 43 (by decide +kernel) rfl, am_mem 60 (by decide +kernel) rfl, am_mem 1110 (by decide +kernel) rfl, by decide +kernel, by decide +kernel, by decide +kernel⟩
theorem cv_X7_172 : aCV RX7 172 yX7_mayMatch 6 mX7_mayMatch 2 := ⟨⟨TX7, 21, rfl⟩, am_mem 1111 (by decide +kernel) rfl, am_mem 1113 (by decide +kernel) rfl, am_mem 44 (by decide +kernel) rfl, am_mem 60 (by decide +kernel) rfl, am_mem 1114 (by decide +kernel) rfl, by decide +kernel, by decide +kernel, by decide +kernel⟩
theorem cv_X7_178 : aCV RX7 178 yX7_row 6 mX7_row 2 := ⟨⟨TX7, 21, rfl⟩, am_mem 1119 (by decide +kernel) rfl, am_mem 904 (by decide +kernel) rfl, am_mem 905 (by decide +kernel) rfl, am_mem 60 (by decide +kernel) rfl, am_mem 906 (by decide +kernel) rfl, by decide +kernel, by decide +kernel, by decide +kernel⟩
theorem cv_X7_181 : aCV RX7 181 yX7_layMatchings 6 mX7_layMatchings 1 := ⟨⟨TX7, 21, rfl⟩, am_mem 1103 (by decide +kernel) rfl, am_mem 1105 (by decide +kernel) rfl, am_mem 42 (by decide +kernel) rfl, am_mem 60 (by decide +kernel) rfl, am_mem 1106 (by decide +kernel) rfl, by decide +kernel, by decide +kernel, by decide +kernel⟩
theorem cv_X7_185 : aCV RX7 185 yX7_laid 6 mX7_laid 1 := ⟨⟨TX7, 21, rfl⟩, am_mem 1115 (by decide +kernel) rfl, am_mem 1117 (by decide +kernel) rfl, am_mem 45 (by decide +kernel) rfl, am_mem 60 (by decide +kernel) rfl, am_mem 1118 (by decide +kernel) rfl, by decide +kernel, by decide +kernel, by decide +kernel⟩
theorem cv_X7_191 : aCV RX7 191 yX7_manyFit 6 mX7_manyFit 3 := ⟨⟨TX7, 21, rfl⟩, am_mem 1156 (by decide +kernel) rfl, am_mem 1158 (by decide +kernel) rfl, am_mem 46 (by decide +kernel) rfl, am_mem 60 (by decide +kernel) rfl, am_mem 1159 (by decide +kernel) rfl, by decide +kernel, by decide +kernel, by decide +kernel⟩
theorem cv_X7_198 : aCV RX7 198 yX7_fits 6 mX7_fits 1 := ⟨⟨TX7, 21, rfl⟩, am_mem 1167 (by decide +kernel) rfl, am_mem 1051 (by decide +kernel) rfl, am_mem 1052 (by decide +kernel) rfl, am_mem 60 (by decide +kernel) rfl, am_mem 1053 (by decide +kernel) rfl, by decide +kernel, by decide +kernel, by decide +kernel⟩
theorem cv_X7_201 : aCV RX7 201 yX7_manyThere 6 mX7_manyThere 3 := ⟨⟨TX7, 21, rfl⟩, am_mem 1180 (by decide +kernel) rfl, am_mem 1182 (by decide +kernel) rfl, am_mem 47 (by decide +kernel) rfl, am_mem 60 (by decide +kernel) rfl, am_mem 1183 (by decide +kernel) rfl, by decide +kernel, by decide +kernel, by decide +kernel⟩
theorem cv_X7_204 : aCV RX7 204 yX7_manyHere 6 mX7_manyHere 2 := ⟨⟨TX7, 21, rfl⟩, am_mem 1184 (by decide +kernel) rfl, am_mem 1186 (by decide +kernel) rfl, am_mem 48 (by decide +kernel) rfl, am_mem 60 (by decide +kernel) rfl, am_mem 1187 (by decide +kernel) rfl, by decide +kernel, by decide +kernel, by decide +kernel⟩
theorem cv_X7_210 : aCV RX7 210 yX7_lying 6 mX7_lying 2 := ⟨⟨TX7, 21, rfl⟩, am_mem 1195 (by decide +kernel) rfl, am_mem 1197 (by decide +kernel) rfl, am_mem 49 (by decide +kernel) rfl, am_mem 60 (by decide +kernel) rfl, am_mem 1198 (by decide +kernel) rfl, by decide +kernel, by decide +kernel, by decide +kernel⟩
theorem cv_X7_225 : aCV RX7 225 yX7_counted 6 mX7_counted 1 := ⟨⟨TX7, 21, rfl⟩, am_mem 1233 (by decide +kernel) rfl, am_mem 1235 (by decide +kernel) rfl, am_mem 50 (by decide +kernel) rfl, am_mem 60 (by decide +kernel) rfl, am_mem 1236 (by decide +kernel) rfl, by decide +kernel, by decide +kernel, by decide +kernel⟩
theorem cv_X7_76 : aCV RX7 76 yX7_found 6 mX7_found 1 := ⟨⟨TX7, 21, rfl⟩, am_mem 914 (by decide +kernel) rfl, am_mem 916 (by decide +kernel) rfl, am_mem 22 (by decide +kernel) rfl, am_mem 60 (by decide +kernel) rfl, am_mem 917 (by decide +kernel) rfl, by decide +kernel, by decide +kernel, by decide +kernel⟩
theorem cv_X7_80 : aCV RX7 80 yX7_tell 6 mX7_tell 1 := ⟨⟨TX7, 21, rfl⟩, am_mem 922 (by decide +kernel) rfl, am_mem 924 (by decide +kernel) rfl, am_mem 23 (by decide +kernel) rfl, am_mem 60 (by decide +kernel) rfl, am_mem 925 (by decide +kernel) rfl, by decide +kernel, by decide +kernel, by decide +kernel⟩
theorem cv_X7_89 : aCV RX7 89 yX7_byteAt 6 mX7_byteAt 1 := ⟨⟨TX7, 21, rfl⟩, am_mem 964 (by decide +kernel) rfl, am_mem 966 (by decide +kernel) rfl, am_mem 25 (by decide +kernel) rfl, am_mem 60 (by decide +kernel) rfl, am_mem 967 (by decide +kernel) rfl, by decide +kernel, by decide +kernel, by decide +kernel⟩
theorem cv_X7_95 : aCV RX7 95 yX7_takes 6 mX7_takes 4 := ⟨⟨TX7, 21, rfl⟩, am_mem 972 (by decide +kernel) rfl, am_mem 974 (by decide +kernel) rfl, am_mem 27 (by decide +kernel) rfl, am_mem 60 (by decide +kernel) rfl, am_mem 975 (by decide +kernel) rfl, by decide +kernel, by decide +kernel, by decide +kernel⟩
theorem cx_X1_104 : aCS RX1 104 yX0_meaning mX0_meaning 3 := ⟨am_mem 402 (by decide +kernel) rfl, am_mem 403 (by decide +kernel) rfl, am_mem 62 (by decide +kernel) rfl, am_mem 404 (by decide +kernel) rfl, by decide +kernel, by decide +kernel, by decide +kernel⟩
theorem cx_X1_111 : aCS RX1 111 yX0_isA mX0_isA 2 := ⟨am_mem 436 (by decide +kernel) rfl, am_mem 426 (by decide +kernel) rfl, am_mem 62 (by decide +kernel) rfl, am_mem 427 (by decide +kernel) rfl, by decide +kernel, by decide +kernel, by decide +kernel⟩
theorem cx_X1_140 : aCS RX1 140 yJ6_bitCount_0f7a4 mJ6_bitCount_0f7a4 1 := ⟨am_mem 721 (by decide +kernel) rfl, am_mem 567 (by decide +kernel) rfl, am_mem 63 (by decide +kernel) rfl, am_mem 568 (by decide +kernel) rfl, by decide +kernel, by decide +kernel, by decide +kernel⟩
theorem cx_X1_151 : aCS RX1 151 yX1_mostStaying mX1_mostStaying 4 := ⟨am_mem 747 (by decide +kernel) rfl, am_mem 748 (by decide +kernel) rfl, am_mem 55 (by decide +kernel) rfl, am_mem 749 (by decide +kernel) rfl, by decide +kernel, by decide +kernel, by decide +kernel⟩
theorem cx_X1_52 : aCS RX1 52 yX1_pastBlanks mX1_pastBlanks 2 := ⟨am_mem 361 (by decide +kernel) rfl, am_mem 362 (by decide +kernel) rfl, am_mem 55 (by decide +kernel) rfl, am_mem 363 (by decide +kernel) rfl, by decide +kernel, by decide +kernel, by decide +kernel⟩
theorem cx_X1_69 : aCS RX1 69 yX0_ofLetter mX0_ofLetter 1 := ⟨am_mem 377 (by decide +kernel) rfl, am_mem 378 (by decide +kernel) rfl, am_mem 62 (by decide +kernel) rfl, am_mem 379 (by decide +kernel) rfl, by decide +kernel, by decide +kernel, by decide +kernel⟩
theorem cx_X1_75 : aCS RX1 75 yX1_figure mX1_figure 4 := ⟨am_mem 369 (by decide +kernel) rfl, am_mem 370 (by decide +kernel) rfl, am_mem 55 (by decide +kernel) rfl, am_mem 371 (by decide +kernel) rfl, by decide +kernel, by decide +kernel, by decide +kernel⟩
theorem cx_X2_55 : aCS RX2 55 yJ7_fill_53178 mJ7_fill_53178 2 := ⟨am_mem 552 (by decide +kernel) rfl, am_mem 191 (by decide +kernel) rfl, am_mem 57 (by decide +kernel) rfl, am_mem 192 (by decide +kernel) rfl, by decide +kernel, by decide +kernel, by decide +kernel⟩
theorem cx_X2_73 : aCS RX2 73 yJ6_bitCount_0f7a4 mJ6_bitCount_0f7a4 1 := ⟨am_mem 566 (by decide +kernel) rfl, am_mem 567 (by decide +kernel) rfl, am_mem 63 (by decide +kernel) rfl, am_mem 568 (by decide +kernel) rfl, by decide +kernel, by decide +kernel, by decide +kernel⟩
theorem cx_X3_50 : aCS RX3 50 yJ7_fill_53178 mJ7_fill_53178 2 := ⟨am_mem 674 (by decide +kernel) rfl, am_mem 191 (by decide +kernel) rfl, am_mem 57 (by decide +kernel) rfl, am_mem 192 (by decide +kernel) rfl, by decide +kernel, by decide +kernel, by decide +kernel⟩
theorem cx_X3_59 : aCS RX3 59 yX0_isA mX0_isA 2 := ⟨am_mem 675 (by decide +kernel) rfl, am_mem 426 (by decide +kernel) rfl, am_mem 62 (by decide +kernel) rfl, am_mem 427 (by decide +kernel) rfl, by decide +kernel, by decide +kernel, by decide +kernel⟩
theorem cx_X3_84 : aCS RX3 84 yJ6_bitCount_0f7a4 mJ6_bitCount_0f7a4 1 := ⟨am_mem 697 (by decide +kernel) rfl, am_mem 567 (by decide +kernel) rfl, am_mem 63 (by decide +kernel) rfl, am_mem 568 (by decide +kernel) rfl, by decide +kernel, by decide +kernel, by decide +kernel⟩
theorem cx_X4_25 : aCS RX4 25 yJ7_fill_53178 mJ7_fill_53178 2 := ⟨am_mem 303 (by decide +kernel) rfl, am_mem 191 (by decide +kernel) rfl, am_mem 57 (by decide +kernel) rfl, am_mem 192 (by decide +kernel) rfl, by decide +kernel, by decide +kernel, by decide +kernel⟩
theorem cx_X5_34 : aCS RX5 34 yJ7_fill_53178 mJ7_fill_53178 2 := ⟨am_mem 190 (by decide +kernel) rfl, am_mem 191 (by decide +kernel) rfl, am_mem 57 (by decide +kernel) rfl, am_mem 192 (by decide +kernel) rfl, by decide +kernel, by decide +kernel, by decide +kernel⟩
theorem cx_X6_105 : aCS RX6 105 yX6_isText mX6_isText 1 := ⟨am_mem 346 (by decide +kernel) rfl, am_mem 347 (by decide +kernel) rfl, am_mem 52 (by decide +kernel) rfl, am_mem 348 (by decide +kernel) rfl, by decide +kernel, by decide +kernel, by decide +kernel⟩
theorem cx_X6_134 : aCS RX6 134 yX0_isA mX0_isA 2 := ⟨am_mem 425 (by decide +kernel) rfl, am_mem 426 (by decide +kernel) rfl, am_mem 62 (by decide +kernel) rfl, am_mem 427 (by decide +kernel) rfl, by decide +kernel, by decide +kernel, by decide +kernel⟩
theorem cx_X6_182 : aCS RX6 182 yX6_isPlaceKept mX6_isPlaceKept 1 := ⟨am_mem 521 (by decide +kernel) rfl, am_mem 522 (by decide +kernel) rfl, am_mem 52 (by decide +kernel) rfl, am_mem 523 (by decide +kernel) rfl, by decide +kernel, by decide +kernel, by decide +kernel⟩
theorem cx_X6_261 : aCS RX6 261 yJ6_bitCount_0f7a4 mJ6_bitCount_0f7a4 1 := ⟨am_mem 738 (by decide +kernel) rfl, am_mem 567 (by decide +kernel) rfl, am_mem 63 (by decide +kernel) rfl, am_mem 568 (by decide +kernel) rfl, by decide +kernel, by decide +kernel, by decide +kernel⟩
theorem cx_X6_289 : aCS RX6 289 yX6_thereAmong mX6_thereAmong 1 := ⟨am_mem 798 (by decide +kernel) rfl, am_mem 799 (by decide +kernel) rfl, am_mem 52 (by decide +kernel) rfl, am_mem 800 (by decide +kernel) rfl, by decide +kernel, by decide +kernel, by decide +kernel⟩
theorem cx_X6_308 : aCS RX6 308 yX6_greatestShared mX6_greatestShared 2 := ⟨am_mem 645 (by decide +kernel) rfl, am_mem 646 (by decide +kernel) rfl, am_mem 52 (by decide +kernel) rfl, am_mem 647 (by decide +kernel) rfl, by decide +kernel, by decide +kernel, by decide +kernel⟩
theorem cx_X6_70 : aCS RX6 70 yX6_isRow mX6_isRow 1 := ⟨am_mem 292 (by decide +kernel) rfl, am_mem 293 (by decide +kernel) rfl, am_mem 52 (by decide +kernel) rfl, am_mem 294 (by decide +kernel) rfl, by decide +kernel, by decide +kernel, by decide +kernel⟩
theorem cx_X7_112 : aCS RX7 112 yX7_copies mX7_copies 4 := ⟨am_mem 987 (by decide +kernel) rfl, am_mem 988 (by decide +kernel) rfl, am_mem 60 (by decide +kernel) rfl, am_mem 989 (by decide +kernel) rfl, by decide +kernel, by decide +kernel, by decide +kernel⟩
theorem cx_X7_116 : aCS RX7 116 yX7_isOf mX7_isOf 2 := ⟨am_mem 1022 (by decide +kernel) rfl, am_mem 1023 (by decide +kernel) rfl, am_mem 60 (by decide +kernel) rfl, am_mem 1024 (by decide +kernel) rfl, by decide +kernel, by decide +kernel, by decide +kernel⟩
theorem cx_X7_195 : aCS RX7 195 yX7_isOne mX7_isOne 1 := ⟨am_mem 1164 (by decide +kernel) rfl, am_mem 1165 (by decide +kernel) rfl, am_mem 60 (by decide +kernel) rfl, am_mem 1166 (by decide +kernel) rfl, by decide +kernel, by decide +kernel, by decide +kernel⟩
theorem cx_X7_207 : aCS RX7 207 yX7_lesser mX7_lesser 2 := ⟨am_mem 1188 (by decide +kernel) rfl, am_mem 1189 (by decide +kernel) rfl, am_mem 60 (by decide +kernel) rfl, am_mem 1190 (by decide +kernel) rfl, by decide +kernel, by decide +kernel, by decide +kernel⟩
theorem cx_X7_66 : aCS RX7 66 yX7_in mX7_in 3 := ⟨am_mem 911 (by decide +kernel) rfl, am_mem 912 (by decide +kernel) rfl, am_mem 60 (by decide +kernel) rfl, am_mem 913 (by decide +kernel) rfl, by decide +kernel, by decide +kernel, by decide +kernel⟩
theorem cx_X7_72 : aCS RX7 72 yX7_isRow mX7_isRow 1 := ⟨am_mem 907 (by decide +kernel) rfl, am_mem 908 (by decide +kernel) rfl, am_mem 60 (by decide +kernel) rfl, am_mem 909 (by decide +kernel) rfl, by decide +kernel, by decide +kernel, by decide +kernel⟩
theorem cx_X7_83 : aCS RX7 83 yX7_isText mX7_isText 1 := ⟨am_mem 946 (by decide +kernel) rfl, am_mem 947 (by decide +kernel) rfl, am_mem 60 (by decide +kernel) rfl, am_mem 948 (by decide +kernel) rfl, by decide +kernel, by decide +kernel, by decide +kernel⟩
theorem cx_X7_92 : aCS RX7 92 yX7_kindOf mX7_kindOf 1 := ⟨am_mem 980 (by decide +kernel) rfl, am_mem 981 (by decide +kernel) rfl, am_mem 60 (by decide +kernel) rfl, am_mem 982 (by decide +kernel) rfl, by decide +kernel, by decide +kernel, by decide +kernel⟩
theorem fl_X1_118 : aFl RX1 118 4 2 := ⟨RX5, TX5, 7, rfl, by decide, inX5g, Or.inr ⟨"LostQuestions", am_memN 160 (by decide +kernel) rfl⟩⟩
theorem fl_X1_15 : aFl RX1 15 0 1 := ⟨RX1, TX1, 9, rfl, by decide, inX1g, Or.inl (am_mem 196 (by decide +kernel) rfl)⟩
theorem fl_X1_175 : aFl RX1 175 4 6 := ⟨RX5, TX5, 7, rfl, by decide, inX5g, Or.inr ⟨"LostQuestions", am_memN 170 (by decide +kernel) rfl⟩⟩
theorem fl_X1_178 : aFl RX1 178 4 4 := ⟨RX5, TX5, 7, rfl, by decide, inX5g, Or.inr ⟨"LostQuestions", am_memN 166 (by decide +kernel) rfl⟩⟩
theorem fl_X1_18 : aFl RX1 18 0 2 := ⟨RX1, TX1, 9, rfl, by decide, inX1g, Or.inl (am_mem 197 (by decide +kernel) rfl)⟩
theorem fl_X1_21 : aFl RX1 21 0 3 := ⟨RX1, TX1, 9, rfl, by decide, inX1g, Or.inl (am_mem 198 (by decide +kernel) rfl)⟩
theorem fl_X1_24 : aFl RX1 24 0 4 := ⟨RX1, TX1, 9, rfl, by decide, inX1g, Or.inl (am_mem 199 (by decide +kernel) rfl)⟩
theorem fl_X1_27 : aFl RX1 27 0 5 := ⟨RX1, TX1, 9, rfl, by decide, inX1g, Or.inl (am_mem 200 (by decide +kernel) rfl)⟩
theorem fl_X1_33 : aFl RX1 33 0 6 := ⟨RX1, TX1, 9, rfl, by decide, inX1g, Or.inl (am_mem 202 (by decide +kernel) rfl)⟩
theorem fl_X1_37 : aFl RX1 37 0 7 := ⟨RX1, TX1, 9, rfl, by decide, inX1g, Or.inl (am_mem 204 (by decide +kernel) rfl)⟩
theorem fl_X1_41 : aFl RX1 41 0 8 := ⟨RX1, TX1, 9, rfl, by decide, inX1g, Or.inl (am_mem 208 (by decide +kernel) rfl)⟩
theorem fl_X1_47 : aFl RX1 47 3 1 := ⟨RX4, TX4, 2, rfl, by decide, inX4g, Or.inr ⟨"LostQuestions", am_memN 243 (by decide +kernel) rfl⟩⟩
theorem fl_X1_60 : aFl RX1 60 3 0 := ⟨RX4, TX4, 2, rfl, by decide, inX4g, Or.inr ⟨"LostQuestions", am_memN 240 (by decide +kernel) rfl⟩⟩
theorem fl_X1_79 : aFl RX1 79 4 0 := ⟨RX5, TX5, 7, rfl, by decide, inX5g, Or.inr ⟨"LostQuestions", am_memN 154 (by decide +kernel) rfl⟩⟩
theorem fl_X1_82 : aFl RX1 82 4 1 := ⟨RX5, TX5, 7, rfl, by decide, inX5g, Or.inr ⟨"LostQuestions", am_memN 157 (by decide +kernel) rfl⟩⟩
theorem fl_X1_9 : aFl RX1 9 0 0 := ⟨RX1, TX1, 9, rfl, by decide, inX1g, Or.inl (am_mem 193 (by decide +kernel) rfl)⟩
theorem fl_X1_94 : aFl RX1 94 4 3 := ⟨RX5, TX5, 7, rfl, by decide, inX5g, Or.inr ⟨"LostQuestions", am_memN 163 (by decide +kernel) rfl⟩⟩
theorem fl_X2_102 : aFl RX2 102 0 5 := ⟨RX1, TX1, 9, rfl, by decide, inX1g, Or.inr ⟨"LostQuestions", am_memN 201 (by decide +kernel) rfl⟩⟩
theorem fl_X2_15 : aFl RX2 15 1 1 := ⟨RX2, TX2, 8, rfl, by decide, inX2g, Or.inl (am_mem 83 (by decide +kernel) rfl)⟩
theorem fl_X2_18 : aFl RX2 18 1 2 := ⟨RX2, TX2, 8, rfl, by decide, inX2g, Or.inl (am_mem 84 (by decide +kernel) rfl)⟩
theorem fl_X2_21 : aFl RX2 21 1 3 := ⟨RX2, TX2, 8, rfl, by decide, inX2g, Or.inl (am_mem 85 (by decide +kernel) rfl)⟩
theorem fl_X2_25 : aFl RX2 25 1 4 := ⟨RX2, TX2, 8, rfl, by decide, inX2g, Or.inl (am_mem 86 (by decide +kernel) rfl)⟩
theorem fl_X2_28 : aFl RX2 28 1 5 := ⟨RX2, TX2, 8, rfl, by decide, inX2g, Or.inl (am_mem 87 (by decide +kernel) rfl)⟩
theorem fl_X2_31 : aFl RX2 31 1 6 := ⟨RX2, TX2, 8, rfl, by decide, inX2g, Or.inl (am_mem 88 (by decide +kernel) rfl)⟩
theorem fl_X2_34 : aFl RX2 34 1 7 := ⟨RX2, TX2, 8, rfl, by decide, inX2g, Or.inl (am_mem 90 (by decide +kernel) rfl)⟩
theorem fl_X2_48 : aFl RX2 48 0 8 := ⟨RX1, TX1, 9, rfl, by decide, inX1g, Or.inr ⟨"LostQuestions", am_memN 209 (by decide +kernel) rfl⟩⟩
theorem fl_X2_51 : aFl RX2 51 0 7 := ⟨RX1, TX1, 9, rfl, by decide, inX1g, Or.inr ⟨"LostQuestions", am_memN 206 (by decide +kernel) rfl⟩⟩
theorem fl_X2_9 : aFl RX2 9 1 0 := ⟨RX2, TX2, 8, rfl, by decide, inX2g, Or.inl (am_mem 82 (by decide +kernel) rfl)⟩
theorem fl_X3_15 : aFl RX3 15 2 1 := ⟨RX3, TX3, 7, rfl, by decide, inX3g, Or.inl (am_mem 117 (by decide +kernel) rfl)⟩
theorem fl_X3_18 : aFl RX3 18 2 2 := ⟨RX3, TX3, 7, rfl, by decide, inX3g, Or.inl (am_mem 118 (by decide +kernel) rfl)⟩
theorem fl_X3_31 : aFl RX3 31 2 6 := ⟨RX3, TX3, 7, rfl, by decide, inX3g, Or.inl (am_mem 125 (by decide +kernel) rfl)⟩
theorem fl_X3_41 : aFl RX3 41 0 7 := ⟨RX1, TX1, 9, rfl, by decide, inX1g, Or.inr ⟨"LostQuestions", am_memN 205 (by decide +kernel) rfl⟩⟩
theorem fl_X3_56 : aFl RX3 56 0 0 := ⟨RX1, TX1, 9, rfl, by decide, inX1g, Or.inr ⟨"LostQuestions", am_memN 194 (by decide +kernel) rfl⟩⟩
theorem fl_X3_74 : aFl RX3 74 0 8 := ⟨RX1, TX1, 9, rfl, by decide, inX1g, Or.inr ⟨"LostQuestions", am_memN 210 (by decide +kernel) rfl⟩⟩
theorem fl_X3_9 : aFl RX3 9 2 0 := ⟨RX3, TX3, 7, rfl, by decide, inX3g, Or.inl (am_mem 116 (by decide +kernel) rfl)⟩
theorem fl_X4_21 : aFl RX4 21 3 0 := ⟨RX4, TX4, 2, rfl, by decide, inX4g, Or.inl (am_mem 239 (by decide +kernel) rfl)⟩
theorem fl_X4_9 : aFl RX4 9 3 1 := ⟨RX4, TX4, 2, rfl, by decide, inX4g, Or.inl (am_mem 242 (by decide +kernel) rfl)⟩
theorem fl_X5_15 : aFl RX5 15 4 1 := ⟨RX5, TX5, 7, rfl, by decide, inX5g, Or.inl (am_mem 156 (by decide +kernel) rfl)⟩
theorem fl_X5_18 : aFl RX5 18 4 2 := ⟨RX5, TX5, 7, rfl, by decide, inX5g, Or.inl (am_mem 159 (by decide +kernel) rfl)⟩
theorem fl_X5_21 : aFl RX5 21 4 3 := ⟨RX5, TX5, 7, rfl, by decide, inX5g, Or.inl (am_mem 162 (by decide +kernel) rfl)⟩
theorem fl_X5_24 : aFl RX5 24 4 4 := ⟨RX5, TX5, 7, rfl, by decide, inX5g, Or.inl (am_mem 165 (by decide +kernel) rfl)⟩
theorem fl_X5_27 : aFl RX5 27 4 5 := ⟨RX5, TX5, 7, rfl, by decide, inX5g, Or.inl (am_mem 167 (by decide +kernel) rfl)⟩
theorem fl_X5_30 : aFl RX5 30 4 6 := ⟨RX5, TX5, 7, rfl, by decide, inX5g, Or.inl (am_mem 168 (by decide +kernel) rfl)⟩
theorem fl_X5_9 : aFl RX5 9 4 0 := ⟨RX5, TX5, 7, rfl, by decide, inX5g, Or.inl (am_mem 153 (by decide +kernel) rfl)⟩
theorem fl_X6_11 : aFl RX6 11 5 0 := ⟨RX6, TX6, 12, rfl, by decide, inX6g, Or.inl (am_mem 251 (by decide +kernel) rfl)⟩
theorem fl_X6_112 : aFl RX6 112 4 6 := ⟨RX5, TX5, 7, rfl, by decide, inX5g, Or.inr ⟨"LostQuestions", am_memN 169 (by decide +kernel) rfl⟩⟩
theorem fl_X6_115 : aFl RX6 115 0 7 := ⟨RX1, TX1, 9, rfl, by decide, inX1g, Or.inr ⟨"LostQuestions", am_memN 207 (by decide +kernel) rfl⟩⟩
theorem fl_X6_131 : aFl RX6 131 0 0 := ⟨RX1, TX1, 9, rfl, by decide, inX1g, Or.inr ⟨"LostQuestions", am_memN 195 (by decide +kernel) rfl⟩⟩
theorem fl_X6_142 : aFl RX6 142 0 6 := ⟨RX1, TX1, 9, rfl, by decide, inX1g, Or.inr ⟨"LostQuestions", am_memN 203 (by decide +kernel) rfl⟩⟩
theorem fl_X6_146 : aFl RX6 146 4 0 := ⟨RX5, TX5, 7, rfl, by decide, inX5g, Or.inr ⟨"LostQuestions", am_memN 155 (by decide +kernel) rfl⟩⟩
theorem fl_X6_149 : aFl RX6 149 4 1 := ⟨RX5, TX5, 7, rfl, by decide, inX5g, Or.inr ⟨"LostQuestions", am_memN 158 (by decide +kernel) rfl⟩⟩
theorem fl_X6_15 : aFl RX6 15 5 1 := ⟨RX6, TX6, 12, rfl, by decide, inX6g, Or.inl (am_mem 252 (by decide +kernel) rfl)⟩
theorem fl_X6_152 : aFl RX6 152 4 2 := ⟨RX5, TX5, 7, rfl, by decide, inX5g, Or.inr ⟨"LostQuestions", am_memN 161 (by decide +kernel) rfl⟩⟩
theorem fl_X6_173 : aFl RX6 173 4 3 := ⟨RX5, TX5, 7, rfl, by decide, inX5g, Or.inr ⟨"LostQuestions", am_memN 164 (by decide +kernel) rfl⟩⟩
theorem fl_X6_197 : aFl RX6 197 1 6 := ⟨RX2, TX2, 8, rfl, by decide, inX2g, Or.inr ⟨"LostQuestions", am_memN 89 (by decide +kernel) rfl⟩⟩
theorem fl_X6_20 : aFl RX6 20 5 2 := ⟨RX6, TX6, 12, rfl, by decide, inX6g, Or.inl (am_mem 253 (by decide +kernel) rfl)⟩
theorem fl_X6_204 : aFl RX6 204 0 8 := ⟨RX1, TX1, 9, rfl, by decide, inX1g, Or.inr ⟨"LostQuestions", am_memN 211 (by decide +kernel) rfl⟩⟩
theorem fl_X6_210 : aFl RX6 210 1 7 := ⟨RX2, TX2, 8, rfl, by decide, inX2g, Or.inr ⟨"LostQuestions", am_memN 91 (by decide +kernel) rfl⟩⟩
theorem fl_X6_234 : aFl RX6 234 2 4 := ⟨RX3, TX3, 7, rfl, by decide, inX3g, Or.inr ⟨"LostQuestions", am_memN 122 (by decide +kernel) rfl⟩⟩
theorem fl_X6_237 : aFl RX6 237 2 3 := ⟨RX3, TX3, 7, rfl, by decide, inX3g, Or.inr ⟨"LostQuestions", am_memN 120 (by decide +kernel) rfl⟩⟩
theorem fl_X6_24 : aFl RX6 24 5 3 := ⟨RX6, TX6, 12, rfl, by decide, inX6g, Or.inl (am_mem 254 (by decide +kernel) rfl)⟩
theorem fl_X6_244 : aFl RX6 244 2 5 := ⟨RX3, TX3, 7, rfl, by decide, inX3g, Or.inr ⟨"LostQuestions", am_memN 124 (by decide +kernel) rfl⟩⟩
theorem fl_X6_31 : aFl RX6 31 5 4 := ⟨RX6, TX6, 12, rfl, by decide, inX6g, Or.inl (am_mem 255 (by decide +kernel) rfl)⟩
theorem fl_X6_38 : aFl RX6 38 5 5 := ⟨RX6, TX6, 12, rfl, by decide, inX6g, Or.inl (am_mem 256 (by decide +kernel) rfl)⟩
theorem fl_X6_45 : aFl RX6 45 5 6 := ⟨RX6, TX6, 12, rfl, by decide, inX6g, Or.inl (am_mem 257 (by decide +kernel) rfl)⟩
theorem fl_X6_49 : aFl RX6 49 5 7 := ⟨RX6, TX6, 12, rfl, by decide, inX6g, Or.inl (am_mem 258 (by decide +kernel) rfl)⟩
theorem fl_X6_52 : aFl RX6 52 5 8 := ⟨RX6, TX6, 12, rfl, by decide, inX6g, Or.inl (am_mem 259 (by decide +kernel) rfl)⟩
theorem fl_X6_56 : aFl RX6 56 5 9 := ⟨RX6, TX6, 12, rfl, by decide, inX6g, Or.inl (am_mem 260 (by decide +kernel) rfl)⟩
theorem fl_X6_60 : aFl RX6 60 5 10 := ⟨RX6, TX6, 12, rfl, by decide, inX6g, Or.inl (am_mem 261 (by decide +kernel) rfl)⟩
theorem fl_X6_63 : aFl RX6 63 5 11 := ⟨RX6, TX6, 12, rfl, by decide, inX6g, Or.inl (am_mem 262 (by decide +kernel) rfl)⟩
theorem fl_X6_89 : aFl RX6 89 3 0 := ⟨RX4, TX4, 2, rfl, by decide, inX4g, Or.inr ⟨"LostQuestions", am_memN 241 (by decide +kernel) rfl⟩⟩
theorem fl_X6_92 : aFl RX6 92 3 1 := ⟨RX4, TX4, 2, rfl, by decide, inX4g, Or.inr ⟨"LostQuestions", am_memN 244 (by decide +kernel) rfl⟩⟩
theorem fl_X7_13 : aFl RX7 13 6 1 := ⟨RX7, TX7, 21, rfl, by decide, inX7g, Or.inl (am_mem 839 (by decide +kernel) rfl)⟩
theorem fl_X7_16 : aFl RX7 16 6 2 := ⟨RX7, TX7, 21, rfl, by decide, inX7g, Or.inl (am_mem 840 (by decide +kernel) rfl)⟩
theorem fl_X7_165 : aFl RX7 165 6 18 := ⟨RX7, TX7, 21, rfl, by decide, inX7g, Or.inl (am_mem 856 (by decide +kernel) rfl)⟩
theorem fl_X7_175 : aFl RX7 175 6 17 := ⟨RX7, TX7, 21, rfl, by decide, inX7g, Or.inl (am_mem 855 (by decide +kernel) rfl)⟩
theorem fl_X7_188 : aFl RX7 188 6 8 := ⟨RX7, TX7, 21, rfl, by decide, inX7g, Or.inl (am_mem 846 (by decide +kernel) rfl)⟩
theorem fl_X7_19 : aFl RX7 19 6 3 := ⟨RX7, TX7, 21, rfl, by decide, inX7g, Or.inl (am_mem 841 (by decide +kernel) rfl)⟩
theorem fl_X7_22 : aFl RX7 22 6 4 := ⟨RX7, TX7, 21, rfl, by decide, inX7g, Or.inl (am_mem 842 (by decide +kernel) rfl)⟩
theorem fl_X7_25 : aFl RX7 25 6 5 := ⟨RX7, TX7, 21, rfl, by decide, inX7g, Or.inl (am_mem 843 (by decide +kernel) rfl)⟩
theorem fl_X7_28 : aFl RX7 28 6 6 := ⟨RX7, TX7, 21, rfl, by decide, inX7g, Or.inl (am_mem 844 (by decide +kernel) rfl)⟩
theorem fl_X7_32 : aFl RX7 32 6 9 := ⟨RX7, TX7, 21, rfl, by decide, inX7g, Or.inl (am_mem 847 (by decide +kernel) rfl)⟩
theorem fl_X7_36 : aFl RX7 36 6 11 := ⟨RX7, TX7, 21, rfl, by decide, inX7g, Or.inl (am_mem 849 (by decide +kernel) rfl)⟩
theorem fl_X7_39 : aFl RX7 39 6 12 := ⟨RX7, TX7, 21, rfl, by decide, inX7g, Or.inl (am_mem 850 (by decide +kernel) rfl)⟩
theorem fl_X7_42 : aFl RX7 42 6 14 := ⟨RX7, TX7, 21, rfl, by decide, inX7g, Or.inl (am_mem 852 (by decide +kernel) rfl)⟩
theorem fl_X7_45 : aFl RX7 45 6 15 := ⟨RX7, TX7, 21, rfl, by decide, inX7g, Or.inl (am_mem 853 (by decide +kernel) rfl)⟩
theorem fl_X7_48 : aFl RX7 48 6 16 := ⟨RX7, TX7, 21, rfl, by decide, inX7g, Or.inl (am_mem 854 (by decide +kernel) rfl)⟩
theorem fl_X7_51 : aFl RX7 51 6 19 := ⟨RX7, TX7, 21, rfl, by decide, inX7g, Or.inl (am_mem 857 (by decide +kernel) rfl)⟩
theorem fl_X7_54 : aFl RX7 54 6 20 := ⟨RX7, TX7, 21, rfl, by decide, inX7g, Or.inl (am_mem 858 (by decide +kernel) rfl)⟩
theorem fl_X7_57 : aFl RX7 57 6 10 := ⟨RX7, TX7, 21, rfl, by decide, inX7g, Or.inl (am_mem 848 (by decide +kernel) rfl)⟩
theorem fl_X7_61 : aFl RX7 61 6 7 := ⟨RX7, TX7, 21, rfl, by decide, inX7g, Or.inl (am_mem 845 (by decide +kernel) rfl)⟩
theorem fl_X7_7 : aFl RX7 7 6 0 := ⟨RX7, TX7, 21, rfl, by decide, inX7g, Or.inl (am_mem 838 (by decide +kernel) rfl)⟩
theorem fl_X7_86 : aFl RX7 86 6 13 := ⟨RX7, TX7, 21, rfl, by decide, inX7g, Or.inl (am_mem 851 (by decide +kernel) rfl)⟩
theorem fp_X1_37 : aFp RX1 37 0 7 .int false := ⟨RX1, TX1, 9, tyX1, rfl, by decide, inX1g, Or.inl (am_mem 204 (by decide +kernel) rfl), tyX1_ok, nmX1, rfl, by decide +kernel, fun h => by cases h⟩
theorem fp_X1_41 : aFp RX1 41 0 8 .int false := ⟨RX1, TX1, 9, tyX1, rfl, by decide, inX1g, Or.inl (am_mem 208 (by decide +kernel) rfl), tyX1_ok, nmX1, rfl, by decide +kernel, fun h => by cases h⟩
theorem fp_X2_21 : aFp RX2 21 1 3 .int false := ⟨RX2, TX2, 8, tyX2, rfl, by decide, inX2g, Or.inl (am_mem 85 (by decide +kernel) rfl), tyX2_ok, nmX2, rfl, by decide +kernel, fun h => by cases h⟩
theorem fp_X2_25 : aFp RX2 25 1 4 .int false := ⟨RX2, TX2, 8, tyX2, rfl, by decide, inX2g, Or.inl (am_mem 86 (by decide +kernel) rfl), tyX2_ok, nmX2, rfl, by decide +kernel, fun h => by cases h⟩
theorem fp_X2_28 : aFp RX2 28 1 5 .int false := ⟨RX2, TX2, 8, tyX2, rfl, by decide, inX2g, Or.inl (am_mem 87 (by decide +kernel) rfl), tyX2_ok, nmX2, rfl, by decide +kernel, fun h => by cases h⟩
theorem fp_X2_31 : aFp RX2 31 1 6 .int false := ⟨RX2, TX2, 8, tyX2, rfl, by decide, inX2g, Or.inl (am_mem 88 (by decide +kernel) rfl), tyX2_ok, nmX2, rfl, by decide +kernel, fun h => by cases h⟩
theorem fp_X2_34 : aFp RX2 34 1 7 .int false := ⟨RX2, TX2, 8, tyX2, rfl, by decide, inX2g, Or.inl (am_mem 90 (by decide +kernel) rfl), tyX2_ok, nmX2, rfl, by decide +kernel, fun h => by cases h⟩
theorem fp_X3_21 : aFp RX3 21 2 3 .int false := ⟨RX3, TX3, 7, tyX3, rfl, by decide, inX3g, Or.inl (am_mem 119 (by decide +kernel) rfl), tyX3_ok, nmX3, rfl, by decide +kernel, fun h => by cases h⟩
theorem fp_X3_25 : aFp RX3 25 2 4 .int false := ⟨RX3, TX3, 7, tyX3, rfl, by decide, inX3g, Or.inl (am_mem 121 (by decide +kernel) rfl), tyX3_ok, nmX3, rfl, by decide +kernel, fun h => by cases h⟩
theorem fp_X3_28 : aFp RX3 28 2 5 .int false := ⟨RX3, TX3, 7, tyX3, rfl, by decide, inX3g, Or.inl (am_mem 123 (by decide +kernel) rfl), tyX3_ok, nmX3, rfl, by decide +kernel, fun h => by cases h⟩
theorem fp_X3_31 : aFp RX3 31 2 6 .int false := ⟨RX3, TX3, 7, tyX3, rfl, by decide, inX3g, Or.inl (am_mem 125 (by decide +kernel) rfl), tyX3_ok, nmX3, rfl, by decide +kernel, fun h => by cases h⟩
theorem fp_X4_9 : aFp RX4 9 3 1 .int false := ⟨RX4, TX4, 2, tyX4, rfl, by decide, inX4g, Or.inl (am_mem 242 (by decide +kernel) rfl), tyX4_ok, nmX4, rfl, by decide +kernel, fun h => by cases h⟩
theorem fp_X5_30 : aFp RX5 30 4 6 .int false := ⟨RX5, TX5, 7, tyX5, rfl, by decide, inX5g, Or.inl (am_mem 168 (by decide +kernel) rfl), tyX5_ok, nmX5, rfl, by decide +kernel, fun h => by cases h⟩
theorem fp_X6_112 : aFp RX6 112 4 6 .int false := ⟨RX5, TX5, 7, tyX5, rfl, by decide, inX5g, Or.inr ⟨⟨"LostQuestions", am_memN 169 (by decide +kernel) rfl⟩, rfl⟩, tyX5_ok, nmX5, rfl, by decide +kernel, fun h => by cases h⟩
theorem fp_X6_45 : aFp RX6 45 5 6 (.object "LostQuestions$Library") false := ⟨RX6, TX6, 12, tyX6, rfl, by decide, inX6g, Or.inl (am_mem 257 (by decide +kernel) rfl), tyX6_ok, nmX6, rfl, by decide +kernel, fun h => by cases h⟩
theorem fp_X6_49 : aFp RX6 49 5 7 (.object "LostQuestions$Library") false := ⟨RX6, TX6, 12, tyX6, rfl, by decide, inX6g, Or.inl (am_mem 258 (by decide +kernel) rfl), tyX6_ok, nmX6, rfl, by decide +kernel, fun h => by cases h⟩
theorem fp_X6_52 : aFp RX6 52 5 8 .int false := ⟨RX6, TX6, 12, tyX6, rfl, by decide, inX6g, Or.inl (am_mem 259 (by decide +kernel) rfl), tyX6_ok, nmX6, rfl, by decide +kernel, fun h => by cases h⟩
theorem fp_X6_56 : aFp RX6 56 5 9 .long false := ⟨RX6, TX6, 12, tyX6, rfl, by decide, inX6g, Or.inl (am_mem 260 (by decide +kernel) rfl), tyX6_ok, nmX6, rfl, by decide +kernel, fun h => by cases h⟩
theorem fp_X6_60 : aFp RX6 60 5 10 .long false := ⟨RX6, TX6, 12, tyX6, rfl, by decide, inX6g, Or.inl (am_mem 261 (by decide +kernel) rfl), tyX6_ok, nmX6, rfl, by decide +kernel, fun h => by cases h⟩
theorem fp_X6_63 : aFp RX6 63 5 11 .int false := ⟨RX6, TX6, 12, tyX6, rfl, by decide, inX6g, Or.inl (am_mem 262 (by decide +kernel) rfl), tyX6_ok, nmX6, rfl, by decide +kernel, fun h => by cases h⟩
theorem fp_X6_92 : aFp RX6 92 3 1 .int false := ⟨RX4, TX4, 2, tyX4, rfl, by decide, inX4g, Or.inr ⟨⟨"LostQuestions", am_memN 244 (by decide +kernel) rfl⟩, rfl⟩, tyX4_ok, nmX4, rfl, by decide +kernel, fun h => by cases h⟩
theorem fp_X7_165 : aFp RX7 165 6 18 .int false := ⟨RX7, TX7, 21, tyX7, rfl, by decide, inX7g, Or.inl (am_mem 856 (by decide +kernel) rfl), tyX7_ok, nmX7, rfl, by decide +kernel, fun h => by cases h⟩
theorem fp_X7_175 : aFp RX7 175 6 17 .int false := ⟨RX7, TX7, 21, tyX7, rfl, by decide, inX7g, Or.inl (am_mem 855 (by decide +kernel) rfl), tyX7_ok, nmX7, rfl, by decide +kernel, fun h => by cases h⟩
theorem fp_X7_188 : aFp RX7 188 6 8 .long false := ⟨RX7, TX7, 21, tyX7, rfl, by decide, inX7g, Or.inl (am_mem 846 (by decide +kernel) rfl), tyX7_ok, nmX7, rfl, by decide +kernel, fun h => by cases h⟩
theorem fp_X7_32 : aFp RX7 32 6 9 .long false := ⟨RX7, TX7, 21, tyX7, rfl, by decide, inX7g, Or.inl (am_mem 847 (by decide +kernel) rfl), tyX7_ok, nmX7, rfl, by decide +kernel, fun h => by cases h⟩
theorem fp_X7_57 : aFp RX7 57 6 10 .int false := ⟨RX7, TX7, 21, tyX7, rfl, by decide, inX7g, Or.inl (am_mem 848 (by decide +kernel) rfl), tyX7_ok, nmX7, rfl, by decide +kernel, fun h => by cases h⟩
theorem fp_X7_61 : aFp RX7 61 6 7 .int false := ⟨RX7, TX7, 21, tyX7, rfl, by decide, inX7g, Or.inl (am_mem 845 (by decide +kernel) rfl), tyX7_ok, nmX7, rfl, by decide +kernel, fun h => by cases h⟩
theorem fp_X7_86 : aFp RX7 86 6 13 .int false := ⟨RX7, TX7, 21, tyX7, rfl, by decide, inX7g, Or.inl (am_mem 851 (by decide +kernel) rfl), tyX7_ok, nmX7, rfl, by decide +kernel, fun h => by cases h⟩
end
section
/-! written by program: J7_fill_53178 J6_bitCount_0f7a4 -/
theorem dJ7_fill_53178_0 : decode cJ7_fill_53178 0 = .ok (.iconst 0, 1) := by decide +kernel
theorem dJ7_fill_53178_1 : decode cJ7_fill_53178 1 = .ok (.istore_n 2, 1) := by decide +kernel
theorem dJ7_fill_53178_2 : decode cJ7_fill_53178 2 = .ok (.aload_n 0, 1) := by decide +kernel
theorem dJ7_fill_53178_3 : decode cJ7_fill_53178 3 = .ok (.arraylength, 1) := by decide +kernel
theorem dJ7_fill_53178_4 : decode cJ7_fill_53178 4 = .ok (.istore_n 3, 1) := by decide +kernel
theorem dJ7_fill_53178_5 : decode cJ7_fill_53178 5 = .ok (.iload_n 2, 1) := by decide +kernel
theorem dJ7_fill_53178_6 : decode cJ7_fill_53178 6 = .ok (.iload_n 3, 1) := by decide +kernel
theorem dJ7_fill_53178_7 : decode cJ7_fill_53178 7 = .ok (.if_icmp .ge 13, 3) := by decide +kernel
theorem dJ7_fill_53178_10 : decode cJ7_fill_53178 10 = .ok (.aload_n 0, 1) := by decide +kernel
theorem dJ7_fill_53178_11 : decode cJ7_fill_53178 11 = .ok (.iload_n 2, 1) := by decide +kernel
theorem dJ7_fill_53178_12 : decode cJ7_fill_53178 12 = .ok (.iload_n 1, 1) := by decide +kernel
theorem dJ7_fill_53178_13 : decode cJ7_fill_53178 13 = .ok (.iastore, 1) := by decide +kernel
theorem dJ7_fill_53178_14 : decode cJ7_fill_53178 14 = .ok (.iinc 2 1, 3) := by decide +kernel
theorem dJ7_fill_53178_17 : decode cJ7_fill_53178 17 = .ok (.goto (-12), 3) := by decide +kernel
theorem dJ7_fill_53178_20 : decode cJ7_fill_53178 20 = .ok (.return_, 1) := by decide +kernel
def F_J7_fill_53178_L5 (a0 : Nat) (a1 : Int32) (v4 : Int32) (K20 : aSt → Option aSt) : Nat → Int32 → aSt → Option aSt
  | 0, _, _ => none
  | fu + 1, l5_2, l5S =>
    if v4 ≤ l5_2 then (K20 l5S) else
    grd (inb l5_2 (SH a0).2) <|
    nm (stI l5S a0 l5_2.toNatClampNeg a1) fun S13 =>
    F_J7_fill_53178_L5 a0 a1 v4 K20 fu (l5_2 + (1 : Int32)) S13
def F_J7_fill_53178 (n : Nat) (S : aSt) (a0 : Nat) (a1 : Int32) : Option aSt :=
nm (Int32.ofNat (SH a0).2) fun v4 =>
jn (fun (x20S : aSt) => (some x20S : Option aSt)) fun K20 =>
F_J7_fill_53178_L5 a0 a1 v4 K20 n (0 : Int32) S
set_option maxHeartbeats 4000000 in
set_option maxRecDepth 100000 in
theorem C_J7_fill_53178 (G : aG) (l : Launch) (n : Nat) (S : aSt) (a0 : Nat) (a1 : Int32) (Sr : aSt) (ha0 : isT a0 7 = true) (hf : F_J7_fill_53178 n S a0 a1 = some Sr) : Ctr G l yJ7_fill_53178 mJ7_fill_53178 (rmM 1) 97 97 S [.ref a0, .int a1] none Sr := by
  refine Ctr.of (by decide) rfl rfl (Nat.le_of_ble_eq_true rfl) [(0, .ref a0), (1, .int a1)] rfl ?_
  unfold F_J7_fill_53178 at hf
  refine Go.iconst (0 : Int32) 1 rfl dJ7_fill_53178_0 ci_0 ?_
  refine Go.istore_n 2 [(2, .int (0 : Int32)), (0, .ref a0), (1, .int a1)] rfl dJ7_fill_53178_1 (by decide) rfl ?_
  refine Go.aload_n 1 3 rfl dJ7_fill_53178_2 rfl ?_
  refine Go.alenI 4 rfl dJ7_fill_53178_3 (isT_lt ha0) (isT_sh ha0) ?_
  obtain ⟨v4, ev4, hf⟩ := f_nm hf
  refine Go.topi v4 ev4 ?_
  refine Go.istore_n 5 [(3, .int v4), (2, .int (0 : Int32)), (0, .ref a0), (1, .int a1)] rfl dJ7_fill_53178_4 (by decide) rfl ?_
  obtain ⟨K20, eK20, hf⟩ := f_jn hf
  have J20 : ∀ (x20S : aSt), K20 x20S = some Sr → GoM G l 1 (TmR G none 97 Sr 0 0) mJ7_fill_53178 20 [] [] x20S := by
    intro x20S hf
    rw [eK20] at hf
    exact Go.vr rfl dJ7_fill_53178_20 hf
  clear eK20
  have L5 : ∀ (fu : Nat) (l5_2 : Int32) (l5S : aSt), F_J7_fill_53178_L5 a0 a1 v4 K20 fu l5_2 l5S = some Sr → GoM G l 1 (TmR G none 97 Sr 0 0) mJ7_fill_53178 5 [(0, .ref a0), (1, .int a1), (2, .int l5_2), (3, .int v4)] [] l5S := by
    intro fu
    induction fu with
    | zero => intro l5_2 l5S hf; rw [F_J7_fill_53178_L5] at hf; cases hf
    | succ fu ih =>
      intro l5_2 l5S hf
      rw [F_J7_fill_53178_L5] at hf
      refine Go.iload_n 2 6 rfl dJ7_fill_53178_5 rfl ?_
      refine Go.iload_n 3 7 rfl dJ7_fill_53178_6 rfl ?_
      refine Go.icmp_ge 20 10 rfl dJ7_fill_53178_7 rfl (fun hc => ?_) (fun hc => ?_)
      · replace hf := f_if hf hc
        exact Go.sub [] [] rfl (J20 l5S hf)
      · replace hf := f_el hf hc
        refine Go.aload_n 0 11 rfl dJ7_fill_53178_10 rfl ?_
        refine Go.iload_n 2 12 rfl dJ7_fill_53178_11 rfl ?_
        refine Go.iload_n 1 13 rfl dJ7_fill_53178_12 rfl ?_
        obtain ⟨g13, hf⟩ := f_grd hf
        obtain ⟨S13, eS13, hf⟩ := f_nm hf
        refine Go.iast 14 rfl dJ7_fill_53178_13 (isT_lt ha0) (isT_sh ha0) g13 (Go.stt S13 eS13 ?_)
        refine Go.inc 2 17 (1 : Int32) [(2, .int (l5_2 + (1 : Int32))), (0, .ref a0), (1, .int a1), (3, .int v4)] rfl dJ7_fill_53178_14 rfl ci_1 (by decide) rfl ?_
        refine Go.goto 5 dJ7_fill_53178_17 rfl ?_
        exact Go.sub [1, 2, 0, 3] [(0, .ref a0), (1, .int a1), (2, .int (l5_2 + (1 : Int32))), (3, .int v4)] rfl (ih (l5_2 + (1 : Int32)) S13 hf)
  exact Go.sub [2, 3, 1, 0] [(0, .ref a0), (1, .int a1), (2, .int (0 : Int32)), (3, .int v4)] rfl (L5 n (0 : Int32) S hf)
theorem dJ6_bitCount_0f7a4_0 : decode cJ6_bitCount_0f7a4 0 = .ok (.iload_n 0, 1) := by decide +kernel
theorem dJ6_bitCount_0f7a4_1 : decode cJ6_bitCount_0f7a4 1 = .ok (.iload_n 0, 1) := by decide +kernel
theorem dJ6_bitCount_0f7a4_2 : decode cJ6_bitCount_0f7a4 2 = .ok (.iconst 1, 1) := by decide +kernel
theorem dJ6_bitCount_0f7a4_3 : decode cJ6_bitCount_0f7a4 3 = .ok (.iushr, 1) := by decide +kernel
theorem dJ6_bitCount_0f7a4_4 : decode cJ6_bitCount_0f7a4 4 = .ok (.ldc_w 265, 3) := by decide +kernel
theorem dJ6_bitCount_0f7a4_7 : decode cJ6_bitCount_0f7a4 7 = .ok (.iand, 1) := by decide +kernel
theorem dJ6_bitCount_0f7a4_8 : decode cJ6_bitCount_0f7a4 8 = .ok (.isub, 1) := by decide +kernel
theorem dJ6_bitCount_0f7a4_9 : decode cJ6_bitCount_0f7a4 9 = .ok (.istore_n 0, 1) := by decide +kernel
theorem dJ6_bitCount_0f7a4_10 : decode cJ6_bitCount_0f7a4 10 = .ok (.iload_n 0, 1) := by decide +kernel
theorem dJ6_bitCount_0f7a4_11 : decode cJ6_bitCount_0f7a4 11 = .ok (.ldc_w 266, 3) := by decide +kernel
theorem dJ6_bitCount_0f7a4_14 : decode cJ6_bitCount_0f7a4 14 = .ok (.iand, 1) := by decide +kernel
theorem dJ6_bitCount_0f7a4_15 : decode cJ6_bitCount_0f7a4 15 = .ok (.iload_n 0, 1) := by decide +kernel
theorem dJ6_bitCount_0f7a4_16 : decode cJ6_bitCount_0f7a4 16 = .ok (.iconst 2, 1) := by decide +kernel
theorem dJ6_bitCount_0f7a4_17 : decode cJ6_bitCount_0f7a4 17 = .ok (.iushr, 1) := by decide +kernel
theorem dJ6_bitCount_0f7a4_18 : decode cJ6_bitCount_0f7a4 18 = .ok (.ldc_w 266, 3) := by decide +kernel
theorem dJ6_bitCount_0f7a4_21 : decode cJ6_bitCount_0f7a4 21 = .ok (.iand, 1) := by decide +kernel
theorem dJ6_bitCount_0f7a4_22 : decode cJ6_bitCount_0f7a4 22 = .ok (.iadd, 1) := by decide +kernel
theorem dJ6_bitCount_0f7a4_23 : decode cJ6_bitCount_0f7a4 23 = .ok (.istore_n 0, 1) := by decide +kernel
theorem dJ6_bitCount_0f7a4_24 : decode cJ6_bitCount_0f7a4 24 = .ok (.iload_n 0, 1) := by decide +kernel
theorem dJ6_bitCount_0f7a4_25 : decode cJ6_bitCount_0f7a4 25 = .ok (.iload_n 0, 1) := by decide +kernel
theorem dJ6_bitCount_0f7a4_26 : decode cJ6_bitCount_0f7a4 26 = .ok (.iconst 4, 1) := by decide +kernel
theorem dJ6_bitCount_0f7a4_27 : decode cJ6_bitCount_0f7a4 27 = .ok (.iushr, 1) := by decide +kernel
theorem dJ6_bitCount_0f7a4_28 : decode cJ6_bitCount_0f7a4 28 = .ok (.iadd, 1) := by decide +kernel
theorem dJ6_bitCount_0f7a4_29 : decode cJ6_bitCount_0f7a4 29 = .ok (.ldc_w 267, 3) := by decide +kernel
theorem dJ6_bitCount_0f7a4_32 : decode cJ6_bitCount_0f7a4 32 = .ok (.iand, 1) := by decide +kernel
theorem dJ6_bitCount_0f7a4_33 : decode cJ6_bitCount_0f7a4 33 = .ok (.istore_n 0, 1) := by decide +kernel
theorem dJ6_bitCount_0f7a4_34 : decode cJ6_bitCount_0f7a4 34 = .ok (.iload_n 0, 1) := by decide +kernel
theorem dJ6_bitCount_0f7a4_35 : decode cJ6_bitCount_0f7a4 35 = .ok (.iload_n 0, 1) := by decide +kernel
theorem dJ6_bitCount_0f7a4_36 : decode cJ6_bitCount_0f7a4 36 = .ok (.bipush 8, 2) := by decide +kernel
theorem dJ6_bitCount_0f7a4_38 : decode cJ6_bitCount_0f7a4 38 = .ok (.iushr, 1) := by decide +kernel
theorem dJ6_bitCount_0f7a4_39 : decode cJ6_bitCount_0f7a4 39 = .ok (.iadd, 1) := by decide +kernel
theorem dJ6_bitCount_0f7a4_40 : decode cJ6_bitCount_0f7a4 40 = .ok (.istore_n 0, 1) := by decide +kernel
theorem dJ6_bitCount_0f7a4_41 : decode cJ6_bitCount_0f7a4 41 = .ok (.iload_n 0, 1) := by decide +kernel
theorem dJ6_bitCount_0f7a4_42 : decode cJ6_bitCount_0f7a4 42 = .ok (.iload_n 0, 1) := by decide +kernel
theorem dJ6_bitCount_0f7a4_43 : decode cJ6_bitCount_0f7a4 43 = .ok (.bipush 16, 2) := by decide +kernel
theorem dJ6_bitCount_0f7a4_45 : decode cJ6_bitCount_0f7a4 45 = .ok (.iushr, 1) := by decide +kernel
theorem dJ6_bitCount_0f7a4_46 : decode cJ6_bitCount_0f7a4 46 = .ok (.iadd, 1) := by decide +kernel
theorem dJ6_bitCount_0f7a4_47 : decode cJ6_bitCount_0f7a4 47 = .ok (.istore_n 0, 1) := by decide +kernel
theorem dJ6_bitCount_0f7a4_48 : decode cJ6_bitCount_0f7a4 48 = .ok (.iload_n 0, 1) := by decide +kernel
theorem dJ6_bitCount_0f7a4_49 : decode cJ6_bitCount_0f7a4 49 = .ok (.bipush 63, 2) := by decide +kernel
theorem dJ6_bitCount_0f7a4_51 : decode cJ6_bitCount_0f7a4 51 = .ok (.iand, 1) := by decide +kernel
theorem dJ6_bitCount_0f7a4_52 : decode cJ6_bitCount_0f7a4 52 = .ok (.ireturn, 1) := by decide +kernel
def F_J6_bitCount_0f7a4 (n : Nat) (S : aSt) (a0 : Int32) : Option Int32 :=
nm (a0 - ((a0.toUInt32 >>> ((1 : Int32).toUInt32 &&& Int32.toUInt32 31)).toInt32 &&& (1431655765 : Int32))) fun v9 =>
nm ((v9 &&& (858993459 : Int32)) + ((v9.toUInt32 >>> ((2 : Int32).toUInt32 &&& Int32.toUInt32 31)).toInt32 &&& (858993459 : Int32))) fun v23 =>
nm ((v23 + (v23.toUInt32 >>> ((4 : Int32).toUInt32 &&& Int32.toUInt32 31)).toInt32) &&& (252645135 : Int32)) fun v33 =>
nm (v33 + (v33.toUInt32 >>> ((8 : Int32).toUInt32 &&& Int32.toUInt32 31)).toInt32) fun v40 =>
nm (v40 + (v40.toUInt32 >>> ((16 : Int32).toUInt32 &&& Int32.toUInt32 31)).toInt32) fun v47 =>
some (v47 &&& (63 : Int32))
set_option maxHeartbeats 4000000 in
set_option maxRecDepth 100000 in
theorem C_J6_bitCount_0f7a4 (G : aG) (l : Launch) (n : Nat) (S : aSt) (a0 : Int32) (r : Int32)  (hf : F_J6_bitCount_0f7a4 n S a0 = some r) : Ctr G l yJ6_bitCount_0f7a4 mJ6_bitCount_0f7a4 (rmM 1) 97 97 S [.int a0] (some (.int r)) S := by
  refine Ctr.of (by decide) rfl rfl (Nat.le_of_ble_eq_true rfl) [(0, .int a0)] rfl ?_
  unfold F_J6_bitCount_0f7a4 at hf
  refine Go.iload_n 0 1 rfl dJ6_bitCount_0f7a4_0 rfl ?_
  refine Go.iload_n 0 2 rfl dJ6_bitCount_0f7a4_1 rfl ?_
  refine Go.iconst (1 : Int32) 3 rfl dJ6_bitCount_0f7a4_2 ci_1 ?_
  refine Go.iushr 4 rfl dJ6_bitCount_0f7a4_3 ?_
  refine Go.ldcw (1431655765 : Int32) 7 rfl dJ6_bitCount_0f7a4_4 (am_mem 569 (by decide +kernel) rfl) ?_
  refine Go.iand 8 rfl dJ6_bitCount_0f7a4_7 ?_
  refine Go.isub 9 rfl dJ6_bitCount_0f7a4_8 ?_
  obtain ⟨v9, ev9, hf⟩ := f_nm hf
  refine Go.topi v9 ev9 ?_
  refine Go.istore_n 10 [(0, .int v9)] rfl dJ6_bitCount_0f7a4_9 (by decide) rfl ?_
  refine Go.iload_n 0 11 rfl dJ6_bitCount_0f7a4_10 rfl ?_
  refine Go.ldcw (858993459 : Int32) 14 rfl dJ6_bitCount_0f7a4_11 (am_mem 570 (by decide +kernel) rfl) ?_
  refine Go.iand 15 rfl dJ6_bitCount_0f7a4_14 ?_
  refine Go.iload_n 0 16 rfl dJ6_bitCount_0f7a4_15 rfl ?_
  refine Go.iconst (2 : Int32) 17 rfl dJ6_bitCount_0f7a4_16 ci_2 ?_
  refine Go.iushr 18 rfl dJ6_bitCount_0f7a4_17 ?_
  refine Go.ldcw (858993459 : Int32) 21 rfl dJ6_bitCount_0f7a4_18 (am_mem 570 (by decide +kernel) rfl) ?_
  refine Go.iand 22 rfl dJ6_bitCount_0f7a4_21 ?_
  refine Go.iadd 23 rfl dJ6_bitCount_0f7a4_22 ?_
  obtain ⟨v23, ev23, hf⟩ := f_nm hf
  refine Go.topi v23 ev23 ?_
  refine Go.istore_n 24 [(0, .int v23)] rfl dJ6_bitCount_0f7a4_23 (by decide) rfl ?_
  refine Go.iload_n 0 25 rfl dJ6_bitCount_0f7a4_24 rfl ?_
  refine Go.iload_n 0 26 rfl dJ6_bitCount_0f7a4_25 rfl ?_
  refine Go.iconst (4 : Int32) 27 rfl dJ6_bitCount_0f7a4_26 ci_4 ?_
  refine Go.iushr 28 rfl dJ6_bitCount_0f7a4_27 ?_
  refine Go.iadd 29 rfl dJ6_bitCount_0f7a4_28 ?_
  refine Go.ldcw (252645135 : Int32) 32 rfl dJ6_bitCount_0f7a4_29 (am_mem 571 (by decide +kernel) rfl) ?_
  refine Go.iand 33 rfl dJ6_bitCount_0f7a4_32 ?_
  obtain ⟨v33, ev33, hf⟩ := f_nm hf
  refine Go.topi v33 ev33 ?_
  refine Go.istore_n 34 [(0, .int v33)] rfl dJ6_bitCount_0f7a4_33 (by decide) rfl ?_
  refine Go.iload_n 0 35 rfl dJ6_bitCount_0f7a4_34 rfl ?_
  refine Go.iload_n 0 36 rfl dJ6_bitCount_0f7a4_35 rfl ?_
  refine Go.bipush (8 : Int32) 38 rfl dJ6_bitCount_0f7a4_36 cb_8 ?_
  refine Go.iushr 39 rfl dJ6_bitCount_0f7a4_38 ?_
  refine Go.iadd 40 rfl dJ6_bitCount_0f7a4_39 ?_
  obtain ⟨v40, ev40, hf⟩ := f_nm hf
  refine Go.topi v40 ev40 ?_
  refine Go.istore_n 41 [(0, .int v40)] rfl dJ6_bitCount_0f7a4_40 (by decide) rfl ?_
  refine Go.iload_n 0 42 rfl dJ6_bitCount_0f7a4_41 rfl ?_
  refine Go.iload_n 0 43 rfl dJ6_bitCount_0f7a4_42 rfl ?_
  refine Go.bipush (16 : Int32) 45 rfl dJ6_bitCount_0f7a4_43 cb_16 ?_
  refine Go.iushr 46 rfl dJ6_bitCount_0f7a4_45 ?_
  refine Go.iadd 47 rfl dJ6_bitCount_0f7a4_46 ?_
  obtain ⟨v47, ev47, hf⟩ := f_nm hf
  refine Go.topi v47 ev47 ?_
  refine Go.istore_n 48 [(0, .int v47)] rfl dJ6_bitCount_0f7a4_47 (by decide) rfl ?_
  refine Go.iload_n 0 49 rfl dJ6_bitCount_0f7a4_48 rfl ?_
  refine Go.bipush (63 : Int32) 51 rfl dJ6_bitCount_0f7a4_49 cb_63 ?_
  refine Go.iand 52 rfl dJ6_bitCount_0f7a4_51 ?_
  exact Go.ir rfl dJ6_bitCount_0f7a4_52 hf
end
section
/-! written by program: X0_ofLetter X0_isA X0_meaning -/
theorem dX0_ofLetter_0 : decode cX0_ofLetter 0 = .ok (.iconst 0, 1) := by decide +kernel
theorem dX0_ofLetter_1 : decode cX0_ofLetter 1 = .ok (.istore_n 1, 1) := by decide +kernel
theorem dX0_ofLetter_2 : decode cX0_ofLetter 2 = .ok (.iload_n 1, 1) := by decide +kernel
theorem dX0_ofLetter_3 : decode cX0_ofLetter 3 = .ok (.bipush 6, 2) := by decide +kernel
theorem dX0_ofLetter_5 : decode cX0_ofLetter 5 = .ok (.if_icmp .ge 20, 3) := by decide +kernel
theorem dX0_ofLetter_8 : decode cX0_ofLetter 8 = .ok (.getstatic 9, 3) := by decide +kernel
theorem dX0_ofLetter_11 : decode cX0_ofLetter 11 = .ok (.iload_n 1, 1) := by decide +kernel
theorem dX0_ofLetter_12 : decode cX0_ofLetter 12 = .ok (.iaload, 1) := by decide +kernel
theorem dX0_ofLetter_13 : decode cX0_ofLetter 13 = .ok (.iload_n 0, 1) := by decide +kernel
theorem dX0_ofLetter_14 : decode cX0_ofLetter 14 = .ok (.if_icmp .ne 5, 3) := by decide +kernel
theorem dX0_ofLetter_17 : decode cX0_ofLetter 17 = .ok (.iload_n 1, 1) := by decide +kernel
theorem dX0_ofLetter_18 : decode cX0_ofLetter 18 = .ok (.ireturn, 1) := by decide +kernel
theorem dX0_ofLetter_19 : decode cX0_ofLetter 19 = .ok (.iinc 1 1, 3) := by decide +kernel
theorem dX0_ofLetter_22 : decode cX0_ofLetter 22 = .ok (.goto (-20), 3) := by decide +kernel
theorem dX0_ofLetter_25 : decode cX0_ofLetter 25 = .ok (.bipush (-9), 2) := by decide +kernel
theorem dX0_ofLetter_27 : decode cX0_ofLetter 27 = .ok (.ireturn, 1) := by decide +kernel
def F_X0_ofLetter_L2 (a0 : Int32) (K25 : Option Int32) : Nat → Int32 → Option Int32
  | 0, _ => none
  | fu + 1, l2_1 =>
    if (6 : Int32) ≤ l2_1 then (K25) else
    grd (inb l2_1 6) <|
    if (am_let l2_1.toNatClampNeg) = a0 then (some l2_1) else
    F_X0_ofLetter_L2 a0 K25 fu (l2_1 + (1 : Int32))
def F_X0_ofLetter (n : Nat) (S : aSt) (a0 : Int32) : Option Int32 :=
jn ((some (-9 : Int32) : Option Int32)) fun K25 =>
F_X0_ofLetter_L2 a0 K25 n (0 : Int32)
set_option maxHeartbeats 4000000 in
set_option maxRecDepth 100000 in
theorem C_X0_ofLetter (G : aG) (l : Launch) (n : Nat) (S : aSt) (a0 : Int32) (r : Int32)  (hf : F_X0_ofLetter n S a0 = some r) : Ctr G l yX0_ofLetter mX0_ofLetter (rmM 1) 97 97 S [.int a0] (some (.int r)) S := by
  refine Ctr.of (by decide) rfl rfl (Nat.le_of_ble_eq_true rfl) [(0, .int a0)] rfl ?_
  unfold F_X0_ofLetter at hf
  refine Go.iconst (0 : Int32) 1 rfl dX0_ofLetter_0 ci_0 ?_
  refine Go.istore_n 2 [(1, .int (0 : Int32)), (0, .int a0)] rfl dX0_ofLetter_1 (by decide) rfl ?_
  obtain ⟨K25, eK25, hf⟩ := f_jn hf
  have J25 : K25 = some r → GoM G l 1 (TmR G (some (.int r)) 97 S 0 0) mX0_ofLetter 25 [] [] S := by
    intro hf
    rw [eK25] at hf
    refine Go.bipush (-9 : Int32) 27 rfl dX0_ofLetter_25 cb_m9 ?_
    exact Go.ir rfl dX0_ofLetter_27 hf
  clear eK25
  have L2 : ∀ (fu : Nat) (l2_1 : Int32), F_X0_ofLetter_L2 a0 K25 fu l2_1 = some r → GoM G l 1 (TmR G (some (.int r)) 97 S 0 0) mX0_ofLetter 2 [(0, .int a0), (1, .int l2_1)] [] S := by
    intro fu
    induction fu with
    | zero => intro l2_1 hf; rw [F_X0_ofLetter_L2] at hf; cases hf
    | succ fu ih =>
      intro l2_1 hf
      rw [F_X0_ofLetter_L2] at hf
      refine Go.iload_n 1 3 rfl dX0_ofLetter_2 rfl ?_
      refine Go.bipush (6 : Int32) 5 rfl dX0_ofLetter_3 cb_6 ?_
      refine Go.icmp_ge 25 8 rfl dX0_ofLetter_5 rfl (fun hc => ?_) (fun hc => ?_)
      · replace hf := f_if hf hc
        exact Go.sub [] [] rfl (J25 hf)
      · replace hf := f_el hf hc
        refine Go.gets 11 rfl dX0_ofLetter_8 (am_mem 380 (by decide +kernel) rfl) ?_
        refine Go.iload_n 1 12 rfl dX0_ofLetter_11 rfl ?_
        obtain ⟨g12, hf⟩ := f_grd hf
        refine Go.ildT 13 rfl dX0_ofLetter_12 g12 ?_
        refine Go.iload_n 0 14 rfl dX0_ofLetter_13 rfl ?_
        refine Go.icmp_ne 19 17 rfl dX0_ofLetter_14 rfl (fun hc => ?_) (fun hc => ?_)
        · replace hf := f_el hf hc
          refine Go.inc 1 22 (1 : Int32) [(1, .int (l2_1 + (1 : Int32))), (0, .int a0)] rfl dX0_ofLetter_19 rfl ci_1 (by decide) rfl ?_
          refine Go.goto 2 dX0_ofLetter_22 rfl ?_
          exact Go.sub [1, 0] [(0, .int a0), (1, .int (l2_1 + (1 : Int32)))] rfl (ih (l2_1 + (1 : Int32)) hf)
        · replace hf := f_if hf hc
          refine Go.iload_n 1 18 rfl dX0_ofLetter_17 rfl ?_
          exact Go.ir rfl dX0_ofLetter_18 hf
  exact Go.sub [1, 0] [(0, .int a0), (1, .int (0 : Int32))] rfl (L2 n (0 : Int32) hf)
theorem dX0_isA_0 : decode cX0_isA 0 = .ok (.iload_n 1, 1) := by decide +kernel
theorem dX0_isA_1 : decode cX0_isA 1 = .ok (.ifCond .eq 28, 3) := by decide +kernel
theorem dX0_isA_4 : decode cX0_isA 4 = .ok (.iload_n 0, 1) := by decide +kernel
theorem dX0_isA_5 : decode cX0_isA 5 = .ok (.iload_n 1, 1) := by decide +kernel
theorem dX0_isA_6 : decode cX0_isA 6 = .ok (.if_icmp .eq 23, 3) := by decide +kernel
theorem dX0_isA_9 : decode cX0_isA 9 = .ok (.iload_n 1, 1) := by decide +kernel
theorem dX0_isA_10 : decode cX0_isA 10 = .ok (.iconst 1, 1) := by decide +kernel
theorem dX0_isA_11 : decode cX0_isA 11 = .ok (.if_icmp .ne 8, 3) := by decide +kernel
theorem dX0_isA_14 : decode cX0_isA 14 = .ok (.iload_n 0, 1) := by decide +kernel
theorem dX0_isA_15 : decode cX0_isA 15 = .ok (.iconst 3, 1) := by decide +kernel
theorem dX0_isA_16 : decode cX0_isA 16 = .ok (.if_icmp .eq 13, 3) := by decide +kernel
theorem dX0_isA_19 : decode cX0_isA 19 = .ok (.iload_n 1, 1) := by decide +kernel
theorem dX0_isA_20 : decode cX0_isA 20 = .ok (.iconst 2, 1) := by decide +kernel
theorem dX0_isA_21 : decode cX0_isA 21 = .ok (.if_icmp .ne 12, 3) := by decide +kernel
theorem dX0_isA_24 : decode cX0_isA 24 = .ok (.iload_n 0, 1) := by decide +kernel
theorem dX0_isA_25 : decode cX0_isA 25 = .ok (.iconst 5, 1) := by decide +kernel
theorem dX0_isA_26 : decode cX0_isA 26 = .ok (.if_icmp .ne 7, 3) := by decide +kernel
theorem dX0_isA_29 : decode cX0_isA 29 = .ok (.iconst 1, 1) := by decide +kernel
theorem dX0_isA_30 : decode cX0_isA 30 = .ok (.goto 4, 3) := by decide +kernel
theorem dX0_isA_33 : decode cX0_isA 33 = .ok (.iconst 0, 1) := by decide +kernel
theorem dX0_isA_34 : decode cX0_isA 34 = .ok (.ireturn, 1) := by decide +kernel
def F_X0_isA (n : Nat) (S : aSt) (a0 : Int32) (a1 : Int32) : Option Int32 :=
if a1 = 0 then (some (1 : Int32)) else
if a0 = a1 then (some (1 : Int32)) else
jn ((if a1 = (2 : Int32) then (if a0 = (5 : Int32) then (some (1 : Int32)) else
some (0 : Int32)) else
some (0 : Int32) : Option Int32)) fun K19 =>
if a1 = (1 : Int32) then (if a0 = (3 : Int32) then (some (1 : Int32)) else
K19) else
K19
set_option maxHeartbeats 4000000 in
set_option maxRecDepth 100000 in
theorem C_X0_isA (G : aG) (l : Launch) (n : Nat) (S : aSt) (a0 : Int32) (a1 : Int32) (r : Int32)  (hf : F_X0_isA n S a0 a1 = some r) : Ctr G l yX0_isA mX0_isA (rmM 1) 97 97 S [.int a0, .int a1] (some (.int r)) S := by
  refine Ctr.of (by decide) rfl rfl (Nat.le_of_ble_eq_true rfl) [(0, .int a0), (1, .int a1)] rfl ?_
  unfold F_X0_isA at hf
  refine Go.iload_n 1 1 rfl dX0_isA_0 rfl ?_
  refine Go.if_eq 29 4 rfl dX0_isA_1 rfl (fun hc => ?_) (fun hc => ?_)
  · replace hf := f_if hf hc
    refine Go.iconst (1 : Int32) 30 rfl dX0_isA_29 ci_1 ?_
    refine Go.goto 34 dX0_isA_30 rfl ?_
    exact Go.zr rfl (Or.inr rfl) dX0_isA_34 hf
  · replace hf := f_el hf hc
    refine Go.iload_n 0 5 rfl dX0_isA_4 rfl ?_
    refine Go.iload_n 1 6 rfl dX0_isA_5 rfl ?_
    refine Go.icmp_eq 29 9 rfl dX0_isA_6 rfl (fun hc => ?_) (fun hc => ?_)
    · replace hf := f_if hf hc
      refine Go.iconst (1 : Int32) 30 rfl dX0_isA_29 ci_1 ?_
      refine Go.goto 34 dX0_isA_30 rfl ?_
      exact Go.zr rfl (Or.inr rfl) dX0_isA_34 hf
    · replace hf := f_el hf hc
      refine Go.iload_n 1 10 rfl dX0_isA_9 rfl ?_
      refine Go.iconst (1 : Int32) 11 rfl dX0_isA_10 ci_1 ?_
      obtain ⟨K19, eK19, hf⟩ := f_jn hf
      have J19 : K19 = some r → GoM G l 1 (TmR G (some (.int r)) 97 S 0 0) mX0_isA 19 [(0, .int a0), (1, .int a1)] [] S := by
        intro hf
        rw [eK19] at hf
        refine Go.iload_n 1 20 rfl dX0_isA_19 rfl ?_
        refine Go.iconst (2 : Int32) 21 rfl dX0_isA_20 ci_2 ?_
        refine Go.icmp_ne 33 24 rfl dX0_isA_21 rfl (fun hc => ?_) (fun hc => ?_)
        · replace hf := f_el hf hc
          refine Go.iconst (0 : Int32) 34 rfl dX0_isA_33 ci_0 ?_
          exact Go.zr rfl (Or.inl rfl) dX0_isA_34 hf
        · replace hf := f_if hf hc
          refine Go.iload_n 0 25 rfl dX0_isA_24 rfl ?_
          refine Go.iconst (5 : Int32) 26 rfl dX0_isA_25 ci_5 ?_
          refine Go.icmp_ne 33 29 rfl dX0_isA_26 rfl (fun hc => ?_) (fun hc => ?_)
          · replace hf := f_el hf hc
            refine Go.iconst (0 : Int32) 34 rfl dX0_isA_33 ci_0 ?_
            exact Go.zr rfl (Or.inl rfl) dX0_isA_34 hf
          · replace hf := f_if hf hc
            refine Go.iconst (1 : Int32) 30 rfl dX0_isA_29 ci_1 ?_
            refine Go.goto 34 dX0_isA_30 rfl ?_
            exact Go.zr rfl (Or.inr rfl) dX0_isA_34 hf
      clear eK19
      refine Go.icmp_ne 19 14 rfl dX0_isA_11 rfl (fun hc => ?_) (fun hc => ?_)
      · replace hf := f_el hf hc
        exact J19 hf
      · replace hf := f_if hf hc
        refine Go.iload_n 0 15 rfl dX0_isA_14 rfl ?_
        refine Go.iconst (3 : Int32) 16 rfl dX0_isA_15 ci_3 ?_
        refine Go.icmp_eq 29 19 rfl dX0_isA_16 rfl (fun hc => ?_) (fun hc => ?_)
        · replace hf := f_if hf hc
          refine Go.iconst (1 : Int32) 30 rfl dX0_isA_29 ci_1 ?_
          refine Go.goto 34 dX0_isA_30 rfl ?_
          exact Go.zr rfl (Or.inr rfl) dX0_isA_34 hf
        · replace hf := f_el hf hc
          exact J19 hf
theorem dX0_meaning_0 : decode cX0_meaning 0 = .ok (.iload_n 0, 1) := by decide +kernel
theorem dX0_meaning_1 : decode cX0_meaning 1 = .ok (.tableswitch 62 1 5 #[35, 62, 46, 55, 48], 35) := by decide +kernel
theorem dX0_meaning_36 : decode cX0_meaning 36 = .ok (.iload_n 1, 1) := by decide +kernel
theorem dX0_meaning_37 : decode cX0_meaning 37 = .ok (.iconst 5, 1) := by decide +kernel
theorem dX0_meaning_38 : decode cX0_meaning 38 = .ok (.if_icmp .lt 7, 3) := by decide +kernel
theorem dX0_meaning_41 : decode cX0_meaning 41 = .ok (.iconst 1, 1) := by decide +kernel
theorem dX0_meaning_42 : decode cX0_meaning 42 = .ok (.goto 4, 3) := by decide +kernel
theorem dX0_meaning_45 : decode cX0_meaning 45 = .ok (.iconst 0, 1) := by decide +kernel
theorem dX0_meaning_46 : decode cX0_meaning 46 = .ok (.ireturn, 1) := by decide +kernel
theorem dX0_meaning_47 : decode cX0_meaning 47 = .ok (.iconst 0, 1) := by decide +kernel
theorem dX0_meaning_48 : decode cX0_meaning 48 = .ok (.ireturn, 1) := by decide +kernel
theorem dX0_meaning_49 : decode cX0_meaning 49 = .ok (.iload_n 1, 1) := by decide +kernel
theorem dX0_meaning_50 : decode cX0_meaning 50 = .ok (.iconst 1, 1) := by decide +kernel
theorem dX0_meaning_51 : decode cX0_meaning 51 = .ok (.iadd, 1) := by decide +kernel
theorem dX0_meaning_52 : decode cX0_meaning 52 = .ok (.bipush 10, 2) := by decide +kernel
theorem dX0_meaning_54 : decode cX0_meaning 54 = .ok (.irem, 1) := by decide +kernel
theorem dX0_meaning_55 : decode cX0_meaning 55 = .ok (.ireturn, 1) := by decide +kernel
theorem dX0_meaning_56 : decode cX0_meaning 56 = .ok (.iload_n 1, 1) := by decide +kernel
theorem dX0_meaning_57 : decode cX0_meaning 57 = .ok (.iload_n 2, 1) := by decide +kernel
theorem dX0_meaning_58 : decode cX0_meaning 58 = .ok (.iadd, 1) := by decide +kernel
theorem dX0_meaning_59 : decode cX0_meaning 59 = .ok (.bipush 10, 2) := by decide +kernel
theorem dX0_meaning_61 : decode cX0_meaning 61 = .ok (.irem, 1) := by decide +kernel
theorem dX0_meaning_62 : decode cX0_meaning 62 = .ok (.ireturn, 1) := by decide +kernel
theorem dX0_meaning_63 : decode cX0_meaning 63 = .ok (.iload_n 1, 1) := by decide +kernel
theorem dX0_meaning_64 : decode cX0_meaning 64 = .ok (.ireturn, 1) := by decide +kernel
def F_X0_meaning (n : Nat) (S : aSt) (a0 : Int32) (a1 : Int32) (a2 : Int32) : Option Int32 :=
if a0 = (1 : Int32) then (if a1 < (5 : Int32) then (some (0 : Int32)) else
some (1 : Int32)) else
if a0 = (2 : Int32) then (some a1) else
if a0 = (3 : Int32) then (some (0 : Int32)) else
if a0 = (4 : Int32) then (some ((a1 + a2) - (a1 + a2) / (10 : Int32) * (10 : Int32))) else
if a0 = (5 : Int32) then (some ((a1 + (1 : Int32)) - (a1 + (1 : Int32)) / (10 : Int32) * (10 : Int32))) else
some a1
set_option maxHeartbeats 4000000 in
set_option maxRecDepth 100000 in
theorem C_X0_meaning (G : aG) (l : Launch) (n : Nat) (S : aSt) (a0 : Int32) (a1 : Int32) (a2 : Int32) (r : Int32)  (hf : F_X0_meaning n S a0 a1 a2 = some r) : Ctr G l yX0_meaning mX0_meaning (rmM 1) 97 97 S [.int a0, .int a1, .int a2] (some (.int r)) S := by
  refine Ctr.of (by decide) rfl rfl (Nat.le_of_ble_eq_true rfl) [(0, .int a0), (1, .int a1), (2, .int a2)] rfl ?_
  unfold F_X0_meaning at hf
  refine Go.iload_n 0 1 rfl dX0_meaning_0 rfl ?_
  by_cases hs1_0 : a0 = (1 : Int32)
  · replace hf := f_if hf hs1_0
    refine Go.tin (1 : Int32) 36 hs1_0 dX0_meaning_1 (by decide) (by decide) rfl rfl ?_
    refine Go.iload_n 1 37 rfl dX0_meaning_36 rfl ?_
    refine Go.iconst (5 : Int32) 38 rfl dX0_meaning_37 ci_5 ?_
    refine Go.icmp_lt 45 41 rfl dX0_meaning_38 rfl (fun hc => ?_) (fun hc => ?_)
    · replace hf := f_if hf hc
      refine Go.iconst (0 : Int32) 46 rfl dX0_meaning_45 ci_0 ?_
      exact Go.ir rfl dX0_meaning_46 hf
    · replace hf := f_el hf hc
      refine Go.iconst (1 : Int32) 42 rfl dX0_meaning_41 ci_1 ?_
      refine Go.goto 46 dX0_meaning_42 rfl ?_
      exact Go.ir rfl dX0_meaning_46 hf
  replace hf := f_el hf hs1_0
  by_cases hs1_1 : a0 = (2 : Int32)
  · replace hf := f_if hf hs1_1
    refine Go.tin (2 : Int32) 63 hs1_1 dX0_meaning_1 (by decide) (by decide) rfl rfl ?_
    refine Go.iload_n 1 64 rfl dX0_meaning_63 rfl ?_
    exact Go.ir rfl dX0_meaning_64 hf
  replace hf := f_el hf hs1_1
  by_cases hs1_2 : a0 = (3 : Int32)
  · replace hf := f_if hf hs1_2
    refine Go.tin (3 : Int32) 47 hs1_2 dX0_meaning_1 (by decide) (by decide) rfl rfl ?_
    refine Go.iconst (0 : Int32) 48 rfl dX0_meaning_47 ci_0 ?_
    exact Go.ir rfl dX0_meaning_48 hf
  replace hf := f_el hf hs1_2
  by_cases hs1_3 : a0 = (4 : Int32)
  · replace hf := f_if hf hs1_3
    refine Go.tin (4 : Int32) 56 hs1_3 dX0_meaning_1 (by decide) (by decide) rfl rfl ?_
    refine Go.iload_n 1 57 rfl dX0_meaning_56 rfl ?_
    refine Go.iload_n 2 58 rfl dX0_meaning_57 rfl ?_
    refine Go.iadd 59 rfl dX0_meaning_58 ?_
    refine Go.bipush (10 : Int32) 61 rfl dX0_meaning_59 cb_10 ?_
    refine Go.irem 62 rfl dX0_meaning_61 (by decide) ?_
    exact Go.ir rfl dX0_meaning_62 hf
  replace hf := f_el hf hs1_3
  by_cases hs1_4 : a0 = (5 : Int32)
  · replace hf := f_if hf hs1_4
    refine Go.tin (5 : Int32) 49 hs1_4 dX0_meaning_1 (by decide) (by decide) rfl rfl ?_
    refine Go.iload_n 1 50 rfl dX0_meaning_49 rfl ?_
    refine Go.iconst (1 : Int32) 51 rfl dX0_meaning_50 ci_1 ?_
    refine Go.iadd 52 rfl dX0_meaning_51 ?_
    refine Go.bipush (10 : Int32) 54 rfl dX0_meaning_52 cb_10 ?_
    refine Go.irem 55 rfl dX0_meaning_54 (by decide) ?_
    exact Go.ir rfl dX0_meaning_55 hf
  replace hf := f_el hf hs1_4
  have nhs1_0 := tsw_ne (z := 1) hs1_0 (by decide)
  have nhs1_1 := tsw_ne (z := 2) hs1_1 (by decide)
  have nhs1_2 := tsw_ne (z := 3) hs1_2 (by decide)
  have nhs1_3 := tsw_ne (z := 4) hs1_3 (by decide)
  have nhs1_4 := tsw_ne (z := 5) hs1_4 (by decide)
  refine Go.tout 63 dX0_meaning_1 (by omega) rfl ?_
  refine Go.iload_n 1 64 rfl dX0_meaning_63 rfl ?_
  exact Go.ir rfl dX0_meaning_64 hf
end
section
/-! written by program: X4_reaches X4_begin X4_layAt X4_isThere X4_holds X4_foldInto -/
theorem dX4_reaches_0 : decode cX4_reaches 0 = .ok (.iload_n 1, 1) := by decide +kernel
theorem dX4_reaches_1 : decode cX4_reaches 1 = .ok (.ifCond .lt 15, 3) := by decide +kernel
theorem dX4_reaches_4 : decode cX4_reaches 4 = .ok (.iload_n 1, 1) := by decide +kernel
theorem dX4_reaches_5 : decode cX4_reaches 5 = .ok (.aload_n 0, 1) := by decide +kernel
theorem dX4_reaches_6 : decode cX4_reaches 6 = .ok (.getfield 9, 3) := by decide +kernel
theorem dX4_reaches_9 : decode cX4_reaches 9 = .ok (.if_icmp .ge 7, 3) := by decide +kernel
theorem dX4_reaches_12 : decode cX4_reaches 12 = .ok (.iconst 1, 1) := by decide +kernel
theorem dX4_reaches_13 : decode cX4_reaches 13 = .ok (.goto 4, 3) := by decide +kernel
theorem dX4_reaches_16 : decode cX4_reaches 16 = .ok (.iconst 0, 1) := by decide +kernel
theorem dX4_reaches_17 : decode cX4_reaches 17 = .ok (.ireturn, 1) := by decide +kernel
def F_X4_reaches (n : Nat) (S : aSt) (a0 : Nat) (a1 : Int32) : Option Int32 :=
if a1 < 0 then (some (0 : Int32)) else
if (S.1 a0 1) ≤ a1 then (some (0 : Int32)) else
some (1 : Int32)
set_option maxHeartbeats 4000000 in
set_option maxRecDepth 100000 in
theorem C_X4_reaches (G : aG) (l : Launch) (n : Nat) (S : aSt) (a0 : Nat) (a1 : Int32) (r : Int32) (ha0 : isT a0 3 = true) (hf : F_X4_reaches n S a0 a1 = some r) : Ctr G l yX4_reaches mX4_reaches (rmM 1) 97 97 S [.ref a0, .int a1] (some (.int r)) S := by
  refine Ctr.of (by decide) rfl rfl (Nat.le_of_ble_eq_true rfl) [(0, .ref a0), (1, .int a1)] rfl ?_
  unfold F_X4_reaches at hf
  refine Go.iload_n 1 1 rfl dX4_reaches_0 rfl ?_
  refine Go.if_lt 16 4 rfl dX4_reaches_1 rfl (fun hc => ?_) (fun hc => ?_)
  · replace hf := f_if hf hc
    refine Go.iconst (0 : Int32) 17 rfl dX4_reaches_16 ci_0 ?_
    exact Go.zr rfl (Or.inl rfl) dX4_reaches_17 hf
  · replace hf := f_el hf hc
    refine Go.iload_n 1 5 rfl dX4_reaches_4 rfl ?_
    refine Go.aload_n 0 6 rfl dX4_reaches_5 rfl ?_
    refine Go.getI 9 rfl dX4_reaches_6 fl_X4_9 rfl (isT_lt ha0) (isT_sh ha0) ?_
    refine Go.icmp_ge 16 12 rfl dX4_reaches_9 rfl (fun hc => ?_) (fun hc => ?_)
    · replace hf := f_if hf hc
      refine Go.iconst (0 : Int32) 17 rfl dX4_reaches_16 ci_0 ?_
      exact Go.zr rfl (Or.inl rfl) dX4_reaches_17 hf
    · replace hf := f_el hf hc
      refine Go.iconst (1 : Int32) 13 rfl dX4_reaches_12 ci_1 ?_
      refine Go.goto 17 dX4_reaches_13 rfl ?_
      exact Go.zr rfl (Or.inr rfl) dX4_reaches_17 hf
theorem dX4_begin_0 : decode cX4_begin 0 = .ok (.aload_n 0, 1) := by decide +kernel
theorem dX4_begin_1 : decode cX4_begin 1 = .ok (.getfield 21, 3) := by decide +kernel
theorem dX4_begin_4 : decode cX4_begin 4 = .ok (.iload_n 2, 1) := by decide +kernel
theorem dX4_begin_5 : decode cX4_begin 5 = .ok (.invokestatic 25, 3) := by decide +kernel
theorem dX4_begin_8 : decode cX4_begin 8 = .ok (.aload_n 0, 1) := by decide +kernel
theorem dX4_begin_9 : decode cX4_begin 9 = .ok (.iconst 0, 1) := by decide +kernel
theorem dX4_begin_10 : decode cX4_begin 10 = .ok (.iload_n 1, 1) := by decide +kernel
theorem dX4_begin_11 : decode cX4_begin 11 = .ok (.aload_n 0, 1) := by decide +kernel
theorem dX4_begin_12 : decode cX4_begin 12 = .ok (.getfield 21, 3) := by decide +kernel
theorem dX4_begin_15 : decode cX4_begin 15 = .ok (.arraylength, 1) := by decide +kernel
theorem dX4_begin_16 : decode cX4_begin 16 = .ok (.invokestatic 31, 3) := by decide +kernel
theorem dX4_begin_19 : decode cX4_begin 19 = .ok (.invokestatic 15, 3) := by decide +kernel
theorem dX4_begin_22 : decode cX4_begin 22 = .ok (.putfield 9, 3) := by decide +kernel
theorem dX4_begin_25 : decode cX4_begin 25 = .ok (.return_, 1) := by decide +kernel
def F_X4_begin (n : Nat) (S : aSt) (a0 : Nat) (a1 : Int32) (a2 : Int32) : Option aSt :=
rfd (S.2.2 a0 0) 7 fun k1 =>
(F_J7_fill_53178 n S k1 a2).bind fun S5 =>
rfd (S5.2.2 a0 0) 7 fun k12 =>
nm (stI S5 a0 1 (if (0 : Int32) < (if (Int32.ofNat (SH k12).2) < a1 then (Int32.ofNat (SH k12).2) else a1) then (if (Int32.ofNat (SH k12).2) < a1 then (Int32.ofNat (SH k12).2) else a1) else (0 : Int32))) fun S22 =>
some S22
set_option maxHeartbeats 4000000 in
set_option maxRecDepth 100000 in
theorem C_X4_begin (G : aG) (l : Launch) (n : Nat) (S : aSt) (a0 : Nat) (a1 : Int32) (a2 : Int32) (Sr : aSt) (ha0 : isT a0 3 = true) (hf : F_X4_begin n S a0 a1 a2 = some Sr) : Ctr G l yX4_begin mX4_begin (rmM 2) 97 97 S [.ref a0, .int a1, .int a2] none Sr := by
  refine Ctr.of (by decide) rfl rfl (Nat.le_of_ble_eq_true rfl) [(0, .ref a0), (1, .int a1), (2, .int a2)] rfl ?_
  unfold F_X4_begin at hf
  refine Go.aload_n 0 1 rfl dX4_begin_0 rfl ?_
  obtain ⟨k1, qk1, hk1, hf⟩ := f_rfd hf
  refine Go.getR 4 rfl dX4_begin_1 fl_X4_21 rfl (isT_lt ha0) (isT_sh ha0) qk1 ?_
  refine Go.iload_n 2 5 rfl dX4_begin_4 rfl ?_
  obtain ⟨S5, eS5, hf⟩ := f_bnd hf
  refine Go.cSv 8 [.ref k1, .int a2] [] (C_J7_fill_53178 G l n S k1 a2 S5 hk1 eS5) rfl dX4_begin_5 cx_X4_25 (by decide) (by decide) rfl (Nat.le_of_ble_eq_true rfl) ?_
  refine Go.aload_n 0 9 rfl dX4_begin_8 rfl ?_
  refine Go.iconst (0 : Int32) 10 rfl dX4_begin_9 ci_0 ?_
  refine Go.iload_n 1 11 rfl dX4_begin_10 rfl ?_
  refine Go.aload_n 0 12 rfl dX4_begin_11 rfl ?_
  obtain ⟨k12, qk12, hk12, hf⟩ := f_rfd hf
  refine Go.getR 15 rfl dX4_begin_12 fl_X4_21 rfl (isT_lt ha0) (isT_sh ha0) qk12 ?_
  refine Go.alenI 16 rfl dX4_begin_15 (isT_lt hk12) (isT_sh hk12) ?_
  refine Go.mmin 19 rfl dX4_begin_16 (am_mem 304 (by decide +kernel) rfl) (am_mem 305 (by decide +kernel) rfl) (am_mem 59 (by decide +kernel) rfl) (am_mem 306 (by decide +kernel) rfl) (Nat.le_of_ble_eq_true rfl) ?_
  refine Go.mmax 22 rfl dX4_begin_19 (am_mem 236 (by decide +kernel) rfl) (am_mem 237 (by decide +kernel) rfl) (am_mem 59 (by decide +kernel) rfl) (am_mem 238 (by decide +kernel) rfl) (Nat.le_of_ble_eq_true rfl) ?_
  obtain ⟨S22, eS22, hf⟩ := f_nm hf
  refine Go.putI 25 rfl dX4_begin_22 fp_X4_9 rfl (isT_lt ha0) (isT_sh ha0) (fun h => by cases h) (Go.stt S22 eS22 ?_)
  exact Go.vr rfl dX4_begin_25 hf
theorem dX4_layAt_0 : decode cX4_layAt 0 = .ok (.aload_n 0, 1) := by decide +kernel
theorem dX4_layAt_1 : decode cX4_layAt 1 = .ok (.iload_n 1, 1) := by decide +kernel
theorem dX4_layAt_2 : decode cX4_layAt 2 = .ok (.invokevirtual 34, 3) := by decide +kernel
theorem dX4_layAt_5 : decode cX4_layAt 5 = .ok (.ifCond .eq 10, 3) := by decide +kernel
theorem dX4_layAt_8 : decode cX4_layAt 8 = .ok (.aload_n 0, 1) := by decide +kernel
theorem dX4_layAt_9 : decode cX4_layAt 9 = .ok (.getfield 21, 3) := by decide +kernel
theorem dX4_layAt_12 : decode cX4_layAt 12 = .ok (.iload_n 1, 1) := by decide +kernel
theorem dX4_layAt_13 : decode cX4_layAt 13 = .ok (.iload_n 2, 1) := by decide +kernel
theorem dX4_layAt_14 : decode cX4_layAt 14 = .ok (.iastore, 1) := by decide +kernel
theorem dX4_layAt_15 : decode cX4_layAt 15 = .ok (.return_, 1) := by decide +kernel
def F_X4_layAt (n : Nat) (S : aSt) (a0 : Nat) (a1 : Int32) (a2 : Int32) : Option aSt :=
(F_X4_reaches n S a0 a1).bind fun r2 =>
if r2 = 0 then (some S) else
rfd (S.2.2 a0 0) 7 fun k9 =>
grd (inb a1 (SH k9).2) <|
nm (stI S k9 a1.toNatClampNeg a2) fun S14 =>
some S14
set_option maxHeartbeats 4000000 in
set_option maxRecDepth 100000 in
theorem C_X4_layAt (G : aG) (l : Launch) (n : Nat) (S : aSt) (a0 : Nat) (a1 : Int32) (a2 : Int32) (Sr : aSt) (ha0 : isT a0 3 = true) (hf : F_X4_layAt n S a0 a1 a2 = some Sr) : Ctr G l yX4_layAt mX4_layAt (rmM 2) 97 97 S [.ref a0, .int a1, .int a2] none Sr := by
  refine Ctr.of (by decide) rfl rfl (Nat.le_of_ble_eq_true rfl) [(0, .ref a0), (1, .int a1), (2, .int a2)] rfl ?_
  unfold F_X4_layAt at hf
  refine Go.aload_n 0 1 rfl dX4_layAt_0 rfl ?_
  refine Go.iload_n 1 2 rfl dX4_layAt_1 rfl ?_
  obtain ⟨r2, er2, hf⟩ := f_bnd hf
  refine Go.cV 5 [.int a1] [] (C_X4_reaches G l n S a0 a1 r2 ha0 er2) rfl dX4_layAt_2 cv_X4_34 ha0 (by decide) (by decide) rfl (Nat.le_of_ble_eq_true rfl) ?_
  refine Go.if_eq 15 8 rfl dX4_layAt_5 rfl (fun hc => ?_) (fun hc => ?_)
  · replace hf := f_if hf hc
    exact Go.vr rfl dX4_layAt_15 hf
  · replace hf := f_el hf hc
    refine Go.aload_n 0 9 rfl dX4_layAt_8 rfl ?_
    obtain ⟨k9, qk9, hk9, hf⟩ := f_rfd hf
    refine Go.getR 12 rfl dX4_layAt_9 fl_X4_21 rfl (isT_lt ha0) (isT_sh ha0) qk9 ?_
    refine Go.iload_n 1 13 rfl dX4_layAt_12 rfl ?_
    refine Go.iload_n 2 14 rfl dX4_layAt_13 rfl ?_
    obtain ⟨g14, hf⟩ := f_grd hf
    obtain ⟨S14, eS14, hf⟩ := f_nm hf
    refine Go.iast 15 rfl dX4_layAt_14 (isT_lt hk9) (isT_sh hk9) g14 (Go.stt S14 eS14 ?_)
    exact Go.vr rfl dX4_layAt_15 hf
theorem dX4_isThere_0 : decode cX4_isThere 0 = .ok (.aload_n 0, 1) := by decide +kernel
theorem dX4_isThere_1 : decode cX4_isThere 1 = .ok (.getfield 9, 3) := by decide +kernel
theorem dX4_isThere_4 : decode cX4_isThere 4 = .ok (.iconst (-1), 1) := by decide +kernel
theorem dX4_isThere_5 : decode cX4_isThere 5 = .ok (.if_icmp .eq 7, 3) := by decide +kernel
theorem dX4_isThere_8 : decode cX4_isThere 8 = .ok (.iconst 1, 1) := by decide +kernel
theorem dX4_isThere_9 : decode cX4_isThere 9 = .ok (.goto 4, 3) := by decide +kernel
theorem dX4_isThere_12 : decode cX4_isThere 12 = .ok (.iconst 0, 1) := by decide +kernel
theorem dX4_isThere_13 : decode cX4_isThere 13 = .ok (.ireturn, 1) := by decide +kernel
def F_X4_isThere (n : Nat) (S : aSt) (a0 : Nat) : Option Int32 :=
if (S.1 a0 1) = (-1 : Int32) then (some (0 : Int32)) else
some (1 : Int32)
set_option maxHeartbeats 4000000 in
set_option maxRecDepth 100000 in
theorem C_X4_isThere (G : aG) (l : Launch) (n : Nat) (S : aSt) (a0 : Nat) (r : Int32) (ha0 : isT a0 3 = true) (hf : F_X4_isThere n S a0 = some r) : Ctr G l yX4_isThere mX4_isThere (rmM 1) 97 97 S [.ref a0] (some (.int r)) S := by
  refine Ctr.of (by decide) rfl rfl (Nat.le_of_ble_eq_true rfl) [(0, .ref a0)] rfl ?_
  unfold F_X4_isThere at hf
  refine Go.aload_n 0 1 rfl dX4_isThere_0 rfl ?_
  refine Go.getI 4 rfl dX4_isThere_1 fl_X4_9 rfl (isT_lt ha0) (isT_sh ha0) ?_
  refine Go.iconst (-1 : Int32) 5 rfl dX4_isThere_4 ci_m1 ?_
  refine Go.icmp_eq 12 8 rfl dX4_isThere_5 rfl (fun hc => ?_) (fun hc => ?_)
  · replace hf := f_if hf hc
    refine Go.iconst (0 : Int32) 13 rfl dX4_isThere_12 ci_0 ?_
    exact Go.zr rfl (Or.inl rfl) dX4_isThere_13 hf
  · replace hf := f_el hf hc
    refine Go.iconst (1 : Int32) 9 rfl dX4_isThere_8 ci_1 ?_
    refine Go.goto 13 dX4_isThere_9 rfl ?_
    exact Go.zr rfl (Or.inr rfl) dX4_isThere_13 hf
theorem dX4_holds_0 : decode cX4_holds 0 = .ok (.iload_n 1, 1) := by decide +kernel
theorem dX4_holds_1 : decode cX4_holds 1 = .ok (.ifCond .lt 29, 3) := by decide +kernel
theorem dX4_holds_4 : decode cX4_holds 4 = .ok (.iload_n 2, 1) := by decide +kernel
theorem dX4_holds_5 : decode cX4_holds 5 = .ok (.ifCond .lt 25, 3) := by decide +kernel
theorem dX4_holds_8 : decode cX4_holds 8 = .ok (.iload_n 2, 1) := by decide +kernel
theorem dX4_holds_9 : decode cX4_holds 9 = .ok (.aload_n 0, 1) := by decide +kernel
theorem dX4_holds_10 : decode cX4_holds 10 = .ok (.getfield 9, 3) := by decide +kernel
theorem dX4_holds_13 : decode cX4_holds 13 = .ok (.if_icmp .gt 17, 3) := by decide +kernel
theorem dX4_holds_16 : decode cX4_holds 16 = .ok (.iload_n 1, 1) := by decide +kernel
theorem dX4_holds_17 : decode cX4_holds 17 = .ok (.aload_n 0, 1) := by decide +kernel
theorem dX4_holds_18 : decode cX4_holds 18 = .ok (.getfield 9, 3) := by decide +kernel
theorem dX4_holds_21 : decode cX4_holds 21 = .ok (.iload_n 2, 1) := by decide +kernel
theorem dX4_holds_22 : decode cX4_holds 22 = .ok (.isub, 1) := by decide +kernel
theorem dX4_holds_23 : decode cX4_holds 23 = .ok (.if_icmp .gt 7, 3) := by decide +kernel
theorem dX4_holds_26 : decode cX4_holds 26 = .ok (.iconst 1, 1) := by decide +kernel
theorem dX4_holds_27 : decode cX4_holds 27 = .ok (.goto 4, 3) := by decide +kernel
theorem dX4_holds_30 : decode cX4_holds 30 = .ok (.iconst 0, 1) := by decide +kernel
theorem dX4_holds_31 : decode cX4_holds 31 = .ok (.ireturn, 1) := by decide +kernel
def F_X4_holds (n : Nat) (S : aSt) (a0 : Nat) (a1 : Int32) (a2 : Int32) : Option Int32 :=
if a1 < 0 then (some (0 : Int32)) else
if a2 < 0 then (some (0 : Int32)) else
if (S.1 a0 1) < a2 then (some (0 : Int32)) else
if ((S.1 a0 1) - a2) < a1 then (some (0 : Int32)) else
some (1 : Int32)
set_option maxHeartbeats 4000000 in
set_option maxRecDepth 100000 in
theorem C_X4_holds (G : aG) (l : Launch) (n : Nat) (S : aSt) (a0 : Nat) (a1 : Int32) (a2 : Int32) (r : Int32) (ha0 : isT a0 3 = true) (hf : F_X4_holds n S a0 a1 a2 = some r) : Ctr G l yX4_holds mX4_holds (rmM 1) 97 97 S [.ref a0, .int a1, .int a2] (some (.int r)) S := by
  refine Ctr.of (by decide) rfl rfl (Nat.le_of_ble_eq_true rfl) [(0, .ref a0), (1, .int a1), (2, .int a2)] rfl ?_
  unfold F_X4_holds at hf
  refine Go.iload_n 1 1 rfl dX4_holds_0 rfl ?_
  refine Go.if_lt 30 4 rfl dX4_holds_1 rfl (fun hc => ?_) (fun hc => ?_)
  · replace hf := f_if hf hc
    refine Go.iconst (0 : Int32) 31 rfl dX4_holds_30 ci_0 ?_
    exact Go.zr rfl (Or.inl rfl) dX4_holds_31 hf
  · replace hf := f_el hf hc
    refine Go.iload_n 2 5 rfl dX4_holds_4 rfl ?_
    refine Go.if_lt 30 8 rfl dX4_holds_5 rfl (fun hc => ?_) (fun hc => ?_)
    · replace hf := f_if hf hc
      refine Go.iconst (0 : Int32) 31 rfl dX4_holds_30 ci_0 ?_
      exact Go.zr rfl (Or.inl rfl) dX4_holds_31 hf
    · replace hf := f_el hf hc
      refine Go.iload_n 2 9 rfl dX4_holds_8 rfl ?_
      refine Go.aload_n 0 10 rfl dX4_holds_9 rfl ?_
      refine Go.getI 13 rfl dX4_holds_10 fl_X4_9 rfl (isT_lt ha0) (isT_sh ha0) ?_
      refine Go.icmp_gt 30 16 rfl dX4_holds_13 rfl (fun hc => ?_) (fun hc => ?_)
      · replace hf := f_if hf hc
        refine Go.iconst (0 : Int32) 31 rfl dX4_holds_30 ci_0 ?_
        exact Go.zr rfl (Or.inl rfl) dX4_holds_31 hf
      · replace hf := f_el hf hc
        refine Go.iload_n 1 17 rfl dX4_holds_16 rfl ?_
        refine Go.aload_n 0 18 rfl dX4_holds_17 rfl ?_
        refine Go.getI 21 rfl dX4_holds_18 fl_X4_9 rfl (isT_lt ha0) (isT_sh ha0) ?_
        refine Go.iload_n 2 22 rfl dX4_holds_21 rfl ?_
        refine Go.isub 23 rfl dX4_holds_22 ?_
        refine Go.icmp_gt 30 26 rfl dX4_holds_23 rfl (fun hc => ?_) (fun hc => ?_)
        · replace hf := f_if hf hc
          refine Go.iconst (0 : Int32) 31 rfl dX4_holds_30 ci_0 ?_
          exact Go.zr rfl (Or.inl rfl) dX4_holds_31 hf
        · replace hf := f_el hf hc
          refine Go.iconst (1 : Int32) 27 rfl dX4_holds_26 ci_1 ?_
          refine Go.goto 31 dX4_holds_27 rfl ?_
          exact Go.zr rfl (Or.inr rfl) dX4_holds_31 hf
theorem dX4_foldInto_0 : decode cX4_foldInto 0 = .ok (.ldc2_w 38, 3) := by decide +kernel
theorem dX4_foldInto_3 : decode cX4_foldInto 3 = .ok (.lload_n 1, 1) := by decide +kernel
theorem dX4_foldInto_4 : decode cX4_foldInto 4 = .ok (.lmul, 1) := by decide +kernel
theorem dX4_foldInto_5 : decode cX4_foldInto 5 = .ok (.aload_n 0, 1) := by decide +kernel
theorem dX4_foldInto_6 : decode cX4_foldInto 6 = .ok (.getfield 9, 3) := by decide +kernel
theorem dX4_foldInto_9 : decode cX4_foldInto 9 = .ok (.i2l, 1) := by decide +kernel
theorem dX4_foldInto_10 : decode cX4_foldInto 10 = .ok (.ladd, 1) := by decide +kernel
theorem dX4_foldInto_11 : decode cX4_foldInto 11 = .ok (.lstore_n 3, 1) := by decide +kernel
theorem dX4_foldInto_12 : decode cX4_foldInto 12 = .ok (.iconst 0, 1) := by decide +kernel
theorem dX4_foldInto_13 : decode cX4_foldInto 13 = .ok (.istore 5, 2) := by decide +kernel
theorem dX4_foldInto_15 : decode cX4_foldInto 15 = .ok (.iload 5, 2) := by decide +kernel
theorem dX4_foldInto_17 : decode cX4_foldInto 17 = .ok (.aload_n 0, 1) := by decide +kernel
theorem dX4_foldInto_18 : decode cX4_foldInto 18 = .ok (.getfield 9, 3) := by decide +kernel
theorem dX4_foldInto_21 : decode cX4_foldInto 21 = .ok (.if_icmp .ge 24, 3) := by decide +kernel
theorem dX4_foldInto_24 : decode cX4_foldInto 24 = .ok (.ldc2_w 38, 3) := by decide +kernel
theorem dX4_foldInto_27 : decode cX4_foldInto 27 = .ok (.lload_n 3, 1) := by decide +kernel
theorem dX4_foldInto_28 : decode cX4_foldInto 28 = .ok (.lmul, 1) := by decide +kernel
theorem dX4_foldInto_29 : decode cX4_foldInto 29 = .ok (.aload_n 0, 1) := by decide +kernel
theorem dX4_foldInto_30 : decode cX4_foldInto 30 = .ok (.getfield 21, 3) := by decide +kernel
theorem dX4_foldInto_33 : decode cX4_foldInto 33 = .ok (.iload 5, 2) := by decide +kernel
theorem dX4_foldInto_35 : decode cX4_foldInto 35 = .ok (.iaload, 1) := by decide +kernel
theorem dX4_foldInto_36 : decode cX4_foldInto 36 = .ok (.i2l, 1) := by decide +kernel
theorem dX4_foldInto_37 : decode cX4_foldInto 37 = .ok (.ladd, 1) := by decide +kernel
theorem dX4_foldInto_38 : decode cX4_foldInto 38 = .ok (.lstore_n 3, 1) := by decide +kernel
theorem dX4_foldInto_39 : decode cX4_foldInto 39 = .ok (.iinc 5 1, 3) := by decide +kernel
theorem dX4_foldInto_42 : decode cX4_foldInto 42 = .ok (.goto (-27), 3) := by decide +kernel
theorem dX4_foldInto_45 : decode cX4_foldInto 45 = .ok (.lload_n 3, 1) := by decide +kernel
theorem dX4_foldInto_46 : decode cX4_foldInto 46 = .ok (.lreturn, 1) := by decide +kernel
def F_X4_foldInto_L15 (S : aSt) (a0 : Nat) (K45 : Int64 → Option Int64) : Nat → Int64 → Int32 → Option Int64
  | 0, _, _ => none
  | fu + 1, l15_3, l15_5 =>
    if (S.1 a0 1) ≤ l15_5 then (K45 l15_3) else
    rfd (S.2.2 a0 0) 7 fun k30 =>
    grd (inb l15_5 (SH k30).2) <|
    nm (((31 : Int64) * l15_3) + (S.1 k30 l15_5.toNatClampNeg).toInt64) fun v38 =>
    F_X4_foldInto_L15 S a0 K45 fu v38 (l15_5 + (1 : Int32))
def F_X4_foldInto (n : Nat) (S : aSt) (a0 : Nat) (a1 : Int64) : Option Int64 :=
nm (((31 : Int64) * a1) + (S.1 a0 1).toInt64) fun v11 =>
jn (fun (x45_3 : Int64) => (some x45_3 : Option Int64)) fun K45 =>
F_X4_foldInto_L15 S a0 K45 n v11 (0 : Int32)
set_option maxHeartbeats 4000000 in
set_option maxRecDepth 100000 in
theorem C_X4_foldInto (G : aG) (l : Launch) (n : Nat) (S : aSt) (a0 : Nat) (a1 : Int64) (r : Int64) (ha0 : isT a0 3 = true) (hf : F_X4_foldInto n S a0 a1 = some r) : Ctr G l yX4_foldInto mX4_foldInto (rmM 1) 97 97 S [.ref a0, .long a1] (some (.long r)) S := by
  refine Ctr.of (by decide) rfl rfl (Nat.le_of_ble_eq_true rfl) [(0, .ref a0), (1, .long a1)] rfl ?_
  unfold F_X4_foldInto at hf
  refine Go.ldc2 (31 : Int64) 3 rfl dX4_foldInto_0 (am_mem 831 (by decide +kernel) rfl) ?_
  refine Go.lload_n 1 4 rfl dX4_foldInto_3 rfl ?_
  refine Go.lmul 5 rfl dX4_foldInto_4 ?_
  refine Go.aload_n 0 6 rfl dX4_foldInto_5 rfl ?_
  refine Go.getI 9 rfl dX4_foldInto_6 fl_X4_9 rfl (isT_lt ha0) (isT_sh ha0) ?_
  refine Go.i2l 10 rfl dX4_foldInto_9 ?_
  refine Go.ladd 11 rfl dX4_foldInto_10 ?_
  obtain ⟨v11, ev11, hf⟩ := f_nm hf
  refine Go.topl v11 ev11 ?_
  refine Go.lstore_n 12 [(3, .long v11), (0, .ref a0), (1, .long a1)] rfl dX4_foldInto_11 (by decide) rfl ?_
  refine Go.iconst (0 : Int32) 13 rfl dX4_foldInto_12 ci_0 ?_
  refine Go.istore 15 [(5, .int (0 : Int32)), (3, .long v11), (0, .ref a0), (1, .long a1)] rfl dX4_foldInto_13 (by decide) rfl ?_
  obtain ⟨K45, eK45, hf⟩ := f_jn hf
  have J45 : ∀ (x45_3 : Int64), K45 x45_3 = some r → GoM G l 1 (TmR G (some (.long r)) 97 S 0 0) mX4_foldInto 45 [(3, .long x45_3)] [] S := by
    intro x45_3 hf
    rw [eK45] at hf
    refine Go.lload_n 0 46 rfl dX4_foldInto_45 rfl ?_
    exact Go.lr rfl dX4_foldInto_46 hf
  clear eK45
  have L15 : ∀ (fu : Nat) (l15_3 : Int64) (l15_5 : Int32), F_X4_foldInto_L15 S a0 K45 fu l15_3 l15_5 = some r → GoM G l 1 (TmR G (some (.long r)) 97 S 0 0) mX4_foldInto 15 [(0, .ref a0), (3, .long l15_3), (5, .int l15_5)] [] S := by
    intro fu
    induction fu with
    | zero => intro l15_3 l15_5 hf; rw [F_X4_foldInto_L15] at hf; cases hf
    | succ fu ih =>
      intro l15_3 l15_5 hf
      rw [F_X4_foldInto_L15] at hf
      refine Go.iload 2 17 rfl dX4_foldInto_15 rfl ?_
      refine Go.aload_n 0 18 rfl dX4_foldInto_17 rfl ?_
      refine Go.getI 21 rfl dX4_foldInto_18 fl_X4_9 rfl (isT_lt ha0) (isT_sh ha0) ?_
      refine Go.icmp_ge 45 24 rfl dX4_foldInto_21 rfl (fun hc => ?_) (fun hc => ?_)
      · replace hf := f_if hf hc
        exact Go.sub [1] [(3, .long l15_3)] rfl (J45 l15_3 hf)
      · replace hf := f_el hf hc
        refine Go.ldc2 (31 : Int64) 27 rfl dX4_foldInto_24 (am_mem 831 (by decide +kernel) rfl) ?_
        refine Go.lload_n 1 28 rfl dX4_foldInto_27 rfl ?_
        refine Go.lmul 29 rfl dX4_foldInto_28 ?_
        refine Go.aload_n 0 30 rfl dX4_foldInto_29 rfl ?_
        obtain ⟨k30, qk30, hk30, hf⟩ := f_rfd hf
        refine Go.getR 33 rfl dX4_foldInto_30 fl_X4_21 rfl (isT_lt ha0) (isT_sh ha0) qk30 ?_
        refine Go.iload 2 35 rfl dX4_foldInto_33 rfl ?_
        obtain ⟨g35, hf⟩ := f_grd hf
        refine Go.iald 36 rfl dX4_foldInto_35 (isT_lt hk30) (isT_sh hk30) g35 ?_
        refine Go.i2l 37 rfl dX4_foldInto_36 ?_
        refine Go.ladd 38 rfl dX4_foldInto_37 ?_
        obtain ⟨v38, ev38, hf⟩ := f_nm hf
        refine Go.topl v38 ev38 ?_
        refine Go.lstore_n 39 [(3, .long v38), (0, .ref a0), (5, .int l15_5)] rfl dX4_foldInto_38 (by decide) rfl ?_
        refine Go.inc 2 42 (1 : Int32) [(5, .int (l15_5 + (1 : Int32))), (3, .long v38), (0, .ref a0)] rfl dX4_foldInto_39 rfl ci_1 (by decide) rfl ?_
        refine Go.goto 15 dX4_foldInto_42 rfl ?_
        exact Go.sub [2, 1, 0] [(0, .ref a0), (3, .long v38), (5, .int (l15_5 + (1 : Int32)))] rfl (ih v38 (l15_5 + (1 : Int32)) hf)
  exact Go.sub [2, 1, 0] [(0, .ref a0), (3, .long v11), (5, .int (0 : Int32))] rfl (L15 n v11 (0 : Int32) hf)
end
section
/-! written by program: X5_begin X5_questionOf X5_addTaking X5_goBack X5_become -/
theorem dX5_begin_0 : decode cX5_begin 0 = .ok (.aload_n 0, 1) := by decide +kernel
theorem dX5_begin_1 : decode cX5_begin 1 = .ok (.iconst 0, 1) := by decide +kernel
theorem dX5_begin_2 : decode cX5_begin 2 = .ok (.putfield 30, 3) := by decide +kernel
theorem dX5_begin_5 : decode cX5_begin 5 = .ok (.aload_n 0, 1) := by decide +kernel
theorem dX5_begin_6 : decode cX5_begin 6 = .ok (.getfield 18, 3) := by decide +kernel
theorem dX5_begin_9 : decode cX5_begin 9 = .ok (.bipush (-9), 2) := by decide +kernel
theorem dX5_begin_11 : decode cX5_begin 11 = .ok (.invokestatic 34, 3) := by decide +kernel
theorem dX5_begin_14 : decode cX5_begin 14 = .ok (.aload_n 0, 1) := by decide +kernel
theorem dX5_begin_15 : decode cX5_begin 15 = .ok (.getfield 21, 3) := by decide +kernel
theorem dX5_begin_18 : decode cX5_begin 18 = .ok (.bipush (-9), 2) := by decide +kernel
theorem dX5_begin_20 : decode cX5_begin 20 = .ok (.invokestatic 34, 3) := by decide +kernel
theorem dX5_begin_23 : decode cX5_begin 23 = .ok (.return_, 1) := by decide +kernel
def F_X5_begin (n : Nat) (S : aSt) (a0 : Nat) : Option aSt :=
nm (stI S a0 6 (0 : Int32)) fun S2 =>
rfd (S2.2.2 a0 2) 7 fun k6 =>
(F_J7_fill_53178 n S2 k6 (-9 : Int32)).bind fun S11 =>
rfd (S11.2.2 a0 3) 7 fun k15 =>
(F_J7_fill_53178 n S11 k15 (-9 : Int32)).bind fun S20 =>
some S20
set_option maxHeartbeats 4000000 in
set_option maxRecDepth 100000 in
theorem C_X5_begin (G : aG) (l : Launch) (n : Nat) (S : aSt) (a0 : Nat) (Sr : aSt) (ha0 : isT a0 4 = true) (hf : F_X5_begin n S a0 = some Sr) : Ctr G l yX5_begin mX5_begin (rmM 2) 97 97 S [.ref a0] none Sr := by
  refine Ctr.of (by decide) rfl rfl (Nat.le_of_ble_eq_true rfl) [(0, .ref a0)] rfl ?_
  unfold F_X5_begin at hf
  refine Go.aload_n 0 1 rfl dX5_begin_0 rfl ?_
  refine Go.iconst (0 : Int32) 2 rfl dX5_begin_1 ci_0 ?_
  obtain ⟨S2, eS2, hf⟩ := f_nm hf
  refine Go.putI 5 rfl dX5_begin_2 fp_X5_30 rfl (isT_lt ha0) (isT_sh ha0) (fun h => by cases h) (Go.stt S2 eS2 ?_)
  refine Go.aload_n 0 6 rfl dX5_begin_5 rfl ?_
  obtain ⟨k6, qk6, hk6, hf⟩ := f_rfd hf
  refine Go.getR 9 rfl dX5_begin_6 fl_X5_18 rfl (isT_lt ha0) (isT_sh ha0) qk6 ?_
  refine Go.bipush (-9 : Int32) 11 rfl dX5_begin_9 cb_m9 ?_
  obtain ⟨S11, eS11, hf⟩ := f_bnd hf
  refine Go.cSv 14 [.ref k6, .int (-9 : Int32)] [] (C_J7_fill_53178 G l n S2 k6 (-9 : Int32) S11 hk6 eS11) rfl dX5_begin_11 cx_X5_34 (by decide) (by decide) rfl (Nat.le_of_ble_eq_true rfl) ?_
  refine Go.aload_n 0 15 rfl dX5_begin_14 rfl ?_
  obtain ⟨k15, qk15, hk15, hf⟩ := f_rfd hf
  refine Go.getR 18 rfl dX5_begin_15 fl_X5_21 rfl (isT_lt ha0) (isT_sh ha0) qk15 ?_
  refine Go.bipush (-9 : Int32) 20 rfl dX5_begin_18 cb_m9 ?_
  obtain ⟨S20, eS20, hf⟩ := f_bnd hf
  refine Go.cSv 23 [.ref k15, .int (-9 : Int32)] [] (C_J7_fill_53178 G l n S11 k15 (-9 : Int32) S20 hk15 eS20) rfl dX5_begin_20 cx_X5_34 (by decide) (by decide) rfl (Nat.le_of_ble_eq_true rfl) ?_
  exact Go.vr rfl dX5_begin_23 hf
theorem dX5_questionOf_0 : decode cX5_questionOf 0 = .ok (.iconst 0, 1) := by decide +kernel
theorem dX5_questionOf_1 : decode cX5_questionOf 1 = .ok (.istore_n 2, 1) := by decide +kernel
theorem dX5_questionOf_2 : decode cX5_questionOf 2 = .ok (.iload_n 2, 1) := by decide +kernel
theorem dX5_questionOf_3 : decode cX5_questionOf 3 = .ok (.bipush 7, 2) := by decide +kernel
theorem dX5_questionOf_5 : decode cX5_questionOf 5 = .ok (.if_icmp .ge 21, 3) := by decide +kernel
theorem dX5_questionOf_8 : decode cX5_questionOf 8 = .ok (.aload_n 0, 1) := by decide +kernel
theorem dX5_questionOf_9 : decode cX5_questionOf 9 = .ok (.getfield 21, 3) := by decide +kernel
theorem dX5_questionOf_12 : decode cX5_questionOf 12 = .ok (.iload_n 2, 1) := by decide +kernel
theorem dX5_questionOf_13 : decode cX5_questionOf 13 = .ok (.iaload, 1) := by decide +kernel
theorem dX5_questionOf_14 : decode cX5_questionOf 14 = .ok (.iload_n 1, 1) := by decide +kernel
theorem dX5_questionOf_15 : decode cX5_questionOf 15 = .ok (.if_icmp .ne 5, 3) := by decide +kernel
theorem dX5_questionOf_18 : decode cX5_questionOf 18 = .ok (.iload_n 2, 1) := by decide +kernel
theorem dX5_questionOf_19 : decode cX5_questionOf 19 = .ok (.ireturn, 1) := by decide +kernel
theorem dX5_questionOf_20 : decode cX5_questionOf 20 = .ok (.iinc 2 1, 3) := by decide +kernel
theorem dX5_questionOf_23 : decode cX5_questionOf 23 = .ok (.goto (-21), 3) := by decide +kernel
theorem dX5_questionOf_26 : decode cX5_questionOf 26 = .ok (.bipush (-9), 2) := by decide +kernel
theorem dX5_questionOf_28 : decode cX5_questionOf 28 = .ok (.ireturn, 1) := by decide +kernel
def F_X5_questionOf_L2 (S : aSt) (a0 : Nat) (a1 : Int32) (K26 : Option Int32) : Nat → Int32 → Option Int32
  | 0, _ => none
  | fu + 1, l2_2 =>
    if (7 : Int32) ≤ l2_2 then (K26) else
    rfd (S.2.2 a0 3) 7 fun k9 =>
    grd (inb l2_2 (SH k9).2) <|
    if (S.1 k9 l2_2.toNatClampNeg) = a1 then (some l2_2) else
    F_X5_questionOf_L2 S a0 a1 K26 fu (l2_2 + (1 : Int32))
def F_X5_questionOf (n : Nat) (S : aSt) (a0 : Nat) (a1 : Int32) : Option Int32 :=
jn ((some (-9 : Int32) : Option Int32)) fun K26 =>
F_X5_questionOf_L2 S a0 a1 K26 n (0 : Int32)
set_option maxHeartbeats 4000000 in
set_option maxRecDepth 100000 in
theorem C_X5_questionOf (G : aG) (l : Launch) (n : Nat) (S : aSt) (a0 : Nat) (a1 : Int32) (r : Int32) (ha0 : isT a0 4 = true) (hf : F_X5_questionOf n S a0 a1 = some r) : Ctr G l yX5_questionOf mX5_questionOf (rmM 1) 97 97 S [.ref a0, .int a1] (some (.int r)) S := by
  refine Ctr.of (by decide) rfl rfl (Nat.le_of_ble_eq_true rfl) [(0, .ref a0), (1, .int a1)] rfl ?_
  unfold F_X5_questionOf at hf
  refine Go.iconst (0 : Int32) 1 rfl dX5_questionOf_0 ci_0 ?_
  refine Go.istore_n 2 [(2, .int (0 : Int32)), (0, .ref a0), (1, .int a1)] rfl dX5_questionOf_1 (by decide) rfl ?_
  obtain ⟨K26, eK26, hf⟩ := f_jn hf
  have J26 : K26 = some r → GoM G l 1 (TmR G (some (.int r)) 97 S 0 0) mX5_questionOf 26 [] [] S := by
    intro hf
    rw [eK26] at hf
    refine Go.bipush (-9 : Int32) 28 rfl dX5_questionOf_26 cb_m9 ?_
    exact Go.ir rfl dX5_questionOf_28 hf
  clear eK26
  have L2 : ∀ (fu : Nat) (l2_2 : Int32), F_X5_questionOf_L2 S a0 a1 K26 fu l2_2 = some r → GoM G l 1 (TmR G (some (.int r)) 97 S 0 0) mX5_questionOf 2 [(0, .ref a0), (1, .int a1), (2, .int l2_2)] [] S := by
    intro fu
    induction fu with
    | zero => intro l2_2 hf; rw [F_X5_questionOf_L2] at hf; cases hf
    | succ fu ih =>
      intro l2_2 hf
      rw [F_X5_questionOf_L2] at hf
      refine Go.iload_n 2 3 rfl dX5_questionOf_2 rfl ?_
      refine Go.bipush (7 : Int32) 5 rfl dX5_questionOf_3 cb_7 ?_
      refine Go.icmp_ge 26 8 rfl dX5_questionOf_5 rfl (fun hc => ?_) (fun hc => ?_)
      · replace hf := f_if hf hc
        exact Go.sub [] [] rfl (J26 hf)
      · replace hf := f_el hf hc
        refine Go.aload_n 0 9 rfl dX5_questionOf_8 rfl ?_
        obtain ⟨k9, qk9, hk9, hf⟩ := f_rfd hf
        refine Go.getR 12 rfl dX5_questionOf_9 fl_X5_21 rfl (isT_lt ha0) (isT_sh ha0) qk9 ?_
        refine Go.iload_n 2 13 rfl dX5_questionOf_12 rfl ?_
        obtain ⟨g13, hf⟩ := f_grd hf
        refine Go.iald 14 rfl dX5_questionOf_13 (isT_lt hk9) (isT_sh hk9) g13 ?_
        refine Go.iload_n 1 15 rfl dX5_questionOf_14 rfl ?_
        refine Go.icmp_ne 20 18 rfl dX5_questionOf_15 rfl (fun hc => ?_) (fun hc => ?_)
        · replace hf := f_el hf hc
          refine Go.inc 2 23 (1 : Int32) [(2, .int (l2_2 + (1 : Int32))), (0, .ref a0), (1, .int a1)] rfl dX5_questionOf_20 rfl ci_1 (by decide) rfl ?_
          refine Go.goto 2 dX5_questionOf_23 rfl ?_
          exact Go.sub [1, 2, 0] [(0, .ref a0), (1, .int a1), (2, .int (l2_2 + (1 : Int32)))] rfl (ih (l2_2 + (1 : Int32)) hf)
        · replace hf := f_if hf hc
          refine Go.iload_n 2 19 rfl dX5_questionOf_18 rfl ?_
          exact Go.ir rfl dX5_questionOf_19 hf
  exact Go.sub [1, 2, 0] [(0, .ref a0), (1, .int a1), (2, .int (0 : Int32))] rfl (L2 n (0 : Int32) hf)
theorem dX5_addTaking_0 : decode cX5_addTaking 0 = .ok (.aload_n 0, 1) := by decide +kernel
theorem dX5_addTaking_1 : decode cX5_addTaking 1 = .ok (.getfield 30, 3) := by decide +kernel
theorem dX5_addTaking_4 : decode cX5_addTaking 4 = .ok (.ifCond .lt 12, 3) := by decide +kernel
theorem dX5_addTaking_7 : decode cX5_addTaking 7 = .ok (.aload_n 0, 1) := by decide +kernel
theorem dX5_addTaking_8 : decode cX5_addTaking 8 = .ok (.getfield 30, 3) := by decide +kernel
theorem dX5_addTaking_11 : decode cX5_addTaking 11 = .ok (.bipush 40, 2) := by decide +kernel
theorem dX5_addTaking_13 : decode cX5_addTaking 13 = .ok (.if_icmp .lt 4, 3) := by decide +kernel
theorem dX5_addTaking_16 : decode cX5_addTaking 16 = .ok (.return_, 1) := by decide +kernel
theorem dX5_addTaking_17 : decode cX5_addTaking 17 = .ok (.aload_n 0, 1) := by decide +kernel
theorem dX5_addTaking_18 : decode cX5_addTaking 18 = .ok (.getfield 21, 3) := by decide +kernel
theorem dX5_addTaking_21 : decode cX5_addTaking 21 = .ok (.iconst 0, 1) := by decide +kernel
theorem dX5_addTaking_22 : decode cX5_addTaking 22 = .ok (.aload_n 0, 1) := by decide +kernel
theorem dX5_addTaking_23 : decode cX5_addTaking 23 = .ok (.getfield 27, 3) := by decide +kernel
theorem dX5_addTaking_26 : decode cX5_addTaking 26 = .ok (.aload_n 0, 1) := by decide +kernel
theorem dX5_addTaking_27 : decode cX5_addTaking 27 = .ok (.getfield 30, 3) := by decide +kernel
theorem dX5_addTaking_30 : decode cX5_addTaking 30 = .ok (.bipush 7, 2) := by decide +kernel
theorem dX5_addTaking_32 : decode cX5_addTaking 32 = .ok (.imul, 1) := by decide +kernel
theorem dX5_addTaking_33 : decode cX5_addTaking 33 = .ok (.bipush 7, 2) := by decide +kernel
theorem dX5_addTaking_35 : decode cX5_addTaking 35 = .ok (.invokestatic 40, 3) := by decide +kernel
theorem dX5_addTaking_38 : decode cX5_addTaking 38 = .ok (.aload_n 0, 1) := by decide +kernel
theorem dX5_addTaking_39 : decode cX5_addTaking 39 = .ok (.getfield 24, 3) := by decide +kernel
theorem dX5_addTaking_42 : decode cX5_addTaking 42 = .ok (.aload_n 0, 1) := by decide +kernel
theorem dX5_addTaking_43 : decode cX5_addTaking 43 = .ok (.getfield 30, 3) := by decide +kernel
theorem dX5_addTaking_46 : decode cX5_addTaking 46 = .ok (.bipush 10, 2) := by decide +kernel
theorem dX5_addTaking_48 : decode cX5_addTaking 48 = .ok (.iload_n 1, 1) := by decide +kernel
theorem dX5_addTaking_49 : decode cX5_addTaking 49 = .ok (.imul, 1) := by decide +kernel
theorem dX5_addTaking_50 : decode cX5_addTaking 50 = .ok (.iload_n 2, 1) := by decide +kernel
theorem dX5_addTaking_51 : decode cX5_addTaking 51 = .ok (.iadd, 1) := by decide +kernel
theorem dX5_addTaking_52 : decode cX5_addTaking 52 = .ok (.iastore, 1) := by decide +kernel
theorem dX5_addTaking_53 : decode cX5_addTaking 53 = .ok (.aload_n 0, 1) := by decide +kernel
theorem dX5_addTaking_54 : decode cX5_addTaking 54 = .ok (.dup, 1) := by decide +kernel
theorem dX5_addTaking_55 : decode cX5_addTaking 55 = .ok (.getfield 30, 3) := by decide +kernel
theorem dX5_addTaking_58 : decode cX5_addTaking 58 = .ok (.iconst 1, 1) := by decide +kernel
theorem dX5_addTaking_59 : decode cX5_addTaking 59 = .ok (.iadd, 1) := by decide +kernel
theorem dX5_addTaking_60 : decode cX5_addTaking 60 = .ok (.putfield 30, 3) := by decide +kernel
theorem dX5_addTaking_63 : decode cX5_addTaking 63 = .ok (.aload_n 0, 1) := by decide +kernel
theorem dX5_addTaking_64 : decode cX5_addTaking 64 = .ok (.getfield 21, 3) := by decide +kernel
theorem dX5_addTaking_67 : decode cX5_addTaking 67 = .ok (.iload_n 1, 1) := by decide +kernel
theorem dX5_addTaking_68 : decode cX5_addTaking 68 = .ok (.iload_n 2, 1) := by decide +kernel
theorem dX5_addTaking_69 : decode cX5_addTaking 69 = .ok (.iastore, 1) := by decide +kernel
theorem dX5_addTaking_70 : decode cX5_addTaking 70 = .ok (.return_, 1) := by decide +kernel
def F_X5_addTaking (n : Nat) (S : aSt) (a0 : Nat) (a1 : Int32) (a2 : Int32) : Option aSt :=
if (S.1 a0 6) < 0 then (some S) else
if (S.1 a0 6) < (40 : Int32) then (rfd (S.2.2 a0 3) 7 fun k18 =>
rfd (S.2.2 a0 5) 7 fun k23 =>
grd (cpok (0 : Int32) ((S.1 a0 6) * (7 : Int32)) (7 : Int32) (SH k18).2 (SH k23).2) <|
nm (stRow S k23 (va_cpy (S.1 k18) (S.1 k23) (0 : Int32).toNatClampNeg ((S.1 a0 6) * (7 : Int32)).toNatClampNeg (7 : Int32).toNatClampNeg)) fun S35 =>
rfd (S35.2.2 a0 4) 7 fun k39 =>
grd (inb (S35.1 a0 6) (SH k39).2) <|
nm (stI S35 k39 (S35.1 a0 6).toNatClampNeg (((10 : Int32) * a1) + a2)) fun S52 =>
nm (stI S52 a0 6 ((S52.1 a0 6) + (1 : Int32))) fun S60 =>
rfd (S60.2.2 a0 3) 7 fun k64 =>
grd (inb a1 (SH k64).2) <|
nm (stI S60 k64 a1.toNatClampNeg a2) fun S69 =>
some S69) else
some S
set_option maxHeartbeats 4000000 in
set_option maxRecDepth 100000 in
theorem C_X5_addTaking (G : aG) (l : Launch) (n : Nat) (S : aSt) (a0 : Nat) (a1 : Int32) (a2 : Int32) (Sr : aSt) (ha0 : isT a0 4 = true) (hf : F_X5_addTaking n S a0 a1 a2 = some Sr) : Ctr G l yX5_addTaking mX5_addTaking (rmM 2) 97 97 S [.ref a0, .int a1, .int a2] none Sr := by
  refine Ctr.of (by decide) rfl rfl (Nat.le_of_ble_eq_true rfl) [(0, .ref a0), (1, .int a1), (2, .int a2)] rfl ?_
  unfold F_X5_addTaking at hf
  refine Go.aload_n 0 1 rfl dX5_addTaking_0 rfl ?_
  refine Go.getI 4 rfl dX5_addTaking_1 fl_X5_30 rfl (isT_lt ha0) (isT_sh ha0) ?_
  refine Go.if_lt 16 7 rfl dX5_addTaking_4 rfl (fun hc => ?_) (fun hc => ?_)
  · replace hf := f_if hf hc
    exact Go.vr rfl dX5_addTaking_16 hf
  · replace hf := f_el hf hc
    refine Go.aload_n 0 8 rfl dX5_addTaking_7 rfl ?_
    refine Go.getI 11 rfl dX5_addTaking_8 fl_X5_30 rfl (isT_lt ha0) (isT_sh ha0) ?_
    refine Go.bipush (40 : Int32) 13 rfl dX5_addTaking_11 cb_40 ?_
    refine Go.icmp_lt 17 16 rfl dX5_addTaking_13 rfl (fun hc => ?_) (fun hc => ?_)
    · replace hf := f_if hf hc
      refine Go.aload_n 0 18 rfl dX5_addTaking_17 rfl ?_
      obtain ⟨k18, qk18, hk18, hf⟩ := f_rfd hf
      refine Go.getR 21 rfl dX5_addTaking_18 fl_X5_21 rfl (isT_lt ha0) (isT_sh ha0) qk18 ?_
      refine Go.iconst (0 : Int32) 22 rfl dX5_addTaking_21 ci_0 ?_
      refine Go.aload_n 0 23 rfl dX5_addTaking_22 rfl ?_
      obtain ⟨k23, qk23, hk23, hf⟩ := f_rfd hf
      refine Go.getR 26 rfl dX5_addTaking_23 fl_X5_27 rfl (isT_lt ha0) (isT_sh ha0) qk23 ?_
      refine Go.aload_n 0 27 rfl dX5_addTaking_26 rfl ?_
      refine Go.getI 30 rfl dX5_addTaking_27 fl_X5_30 rfl (isT_lt ha0) (isT_sh ha0) ?_
      refine Go.bipush (7 : Int32) 32 rfl dX5_addTaking_30 cb_7 ?_
      refine Go.imul 33 rfl dX5_addTaking_32 ?_
      refine Go.bipush (7 : Int32) 35 rfl dX5_addTaking_33 cb_7 ?_
      obtain ⟨g35, hf⟩ := f_grd hf
      obtain ⟨S35, eS35, hf⟩ := f_nm hf
      refine Go.acpy 38 rfl dX5_addTaking_35 (am_mem 490 (by decide +kernel) rfl) (am_mem 337 (by decide +kernel) rfl) (am_mem 336 (by decide +kernel) rfl) (am_mem 61 (by decide +kernel) rfl) (isT_lt hk18) (isT_sh hk18) (isT_lt hk23) (isT_sh hk23) g35 (by decide) (by decide) (Go.stt S35 eS35 ?_)
      refine Go.aload_n 0 39 rfl dX5_addTaking_38 rfl ?_
      obtain ⟨k39, qk39, hk39, hf⟩ := f_rfd hf
      refine Go.getR 42 rfl dX5_addTaking_39 fl_X5_24 rfl (isT_lt ha0) (isT_sh ha0) qk39 ?_
      refine Go.aload_n 0 43 rfl dX5_addTaking_42 rfl ?_
      refine Go.getI 46 rfl dX5_addTaking_43 fl_X5_30 rfl (isT_lt ha0) (isT_sh ha0) ?_
      refine Go.bipush (10 : Int32) 48 rfl dX5_addTaking_46 cb_10 ?_
      refine Go.iload_n 1 49 rfl dX5_addTaking_48 rfl ?_
      refine Go.imul 50 rfl dX5_addTaking_49 ?_
      refine Go.iload_n 2 51 rfl dX5_addTaking_50 rfl ?_
      refine Go.iadd 52 rfl dX5_addTaking_51 ?_
      obtain ⟨g52, hf⟩ := f_grd hf
      obtain ⟨S52, eS52, hf⟩ := f_nm hf
      refine Go.iast 53 rfl dX5_addTaking_52 (isT_lt hk39) (isT_sh hk39) g52 (Go.stt S52 eS52 ?_)
      refine Go.aload_n 0 54 rfl dX5_addTaking_53 rfl ?_
      refine Go.dup 55 rfl dX5_addTaking_54 rfl ?_
      refine Go.getI 58 rfl dX5_addTaking_55 fl_X5_30 rfl (isT_lt ha0) (isT_sh ha0) ?_
      refine Go.iconst (1 : Int32) 59 rfl dX5_addTaking_58 ci_1 ?_
      refine Go.iadd 60 rfl dX5_addTaking_59 ?_
      obtain ⟨S60, eS60, hf⟩ := f_nm hf
      refine Go.putI 63 rfl dX5_addTaking_60 fp_X5_30 rfl (isT_lt ha0) (isT_sh ha0) (fun h => by cases h) (Go.stt S60 eS60 ?_)
      refine Go.aload_n 0 64 rfl dX5_addTaking_63 rfl ?_
      obtain ⟨k64, qk64, hk64, hf⟩ := f_rfd hf
      refine Go.getR 67 rfl dX5_addTaking_64 fl_X5_21 rfl (isT_lt ha0) (isT_sh ha0) qk64 ?_
      refine Go.iload_n 1 68 rfl dX5_addTaking_67 rfl ?_
      refine Go.iload_n 2 69 rfl dX5_addTaking_68 rfl ?_
      obtain ⟨g69, hf⟩ := f_grd hf
      obtain ⟨S69, eS69, hf⟩ := f_nm hf
      refine Go.iast 70 rfl dX5_addTaking_69 (isT_lt hk64) (isT_sh hk64) g69 (Go.stt S69 eS69 ?_)
      exact Go.vr rfl dX5_addTaking_70 hf
    · replace hf := f_el hf hc
      exact Go.vr rfl dX5_addTaking_16 hf
theorem dX5_goBack_0 : decode cX5_goBack 0 = .ok (.iload_n 1, 1) := by decide +kernel
theorem dX5_goBack_1 : decode cX5_goBack 1 = .ok (.ifCond .lt 11, 3) := by decide +kernel
theorem dX5_goBack_4 : decode cX5_goBack 4 = .ok (.iload_n 1, 1) := by decide +kernel
theorem dX5_goBack_5 : decode cX5_goBack 5 = .ok (.aload_n 0, 1) := by decide +kernel
theorem dX5_goBack_6 : decode cX5_goBack 6 = .ok (.getfield 30, 3) := by decide +kernel
theorem dX5_goBack_9 : decode cX5_goBack 9 = .ok (.if_icmp .lt 5, 3) := by decide +kernel
theorem dX5_goBack_12 : decode cX5_goBack 12 = .ok (.iconst 0, 1) := by decide +kernel
theorem dX5_goBack_13 : decode cX5_goBack 13 = .ok (.ireturn, 1) := by decide +kernel
theorem dX5_goBack_14 : decode cX5_goBack 14 = .ok (.aload_n 0, 1) := by decide +kernel
theorem dX5_goBack_15 : decode cX5_goBack 15 = .ok (.getfield 30, 3) := by decide +kernel
theorem dX5_goBack_18 : decode cX5_goBack 18 = .ok (.iload_n 1, 1) := by decide +kernel
theorem dX5_goBack_19 : decode cX5_goBack 19 = .ok (.isub, 1) := by decide +kernel
theorem dX5_goBack_20 : decode cX5_goBack 20 = .ok (.istore_n 2, 1) := by decide +kernel
theorem dX5_goBack_21 : decode cX5_goBack 21 = .ok (.aload_n 0, 1) := by decide +kernel
theorem dX5_goBack_22 : decode cX5_goBack 22 = .ok (.getfield 27, 3) := by decide +kernel
theorem dX5_goBack_25 : decode cX5_goBack 25 = .ok (.iload_n 1, 1) := by decide +kernel
theorem dX5_goBack_26 : decode cX5_goBack 26 = .ok (.bipush 7, 2) := by decide +kernel
theorem dX5_goBack_28 : decode cX5_goBack 28 = .ok (.imul, 1) := by decide +kernel
theorem dX5_goBack_29 : decode cX5_goBack 29 = .ok (.aload_n 0, 1) := by decide +kernel
theorem dX5_goBack_30 : decode cX5_goBack 30 = .ok (.getfield 21, 3) := by decide +kernel
theorem dX5_goBack_33 : decode cX5_goBack 33 = .ok (.iconst 0, 1) := by decide +kernel
theorem dX5_goBack_34 : decode cX5_goBack 34 = .ok (.bipush 7, 2) := by decide +kernel
theorem dX5_goBack_36 : decode cX5_goBack 36 = .ok (.invokestatic 40, 3) := by decide +kernel
theorem dX5_goBack_39 : decode cX5_goBack 39 = .ok (.aload_n 0, 1) := by decide +kernel
theorem dX5_goBack_40 : decode cX5_goBack 40 = .ok (.iload_n 1, 1) := by decide +kernel
theorem dX5_goBack_41 : decode cX5_goBack 41 = .ok (.putfield 30, 3) := by decide +kernel
theorem dX5_goBack_44 : decode cX5_goBack 44 = .ok (.iload_n 2, 1) := by decide +kernel
theorem dX5_goBack_45 : decode cX5_goBack 45 = .ok (.ireturn, 1) := by decide +kernel
def F_X5_goBack (n : Nat) (S : aSt) (a0 : Nat) (a1 : Int32) : Option (Int32 × aSt) :=
if a1 < 0 then (some ((0 : Int32), S)) else
if a1 < (S.1 a0 6) then (nm ((S.1 a0 6) - a1) fun v20 =>
rfd (S.2.2 a0 5) 7 fun k22 =>
rfd (S.2.2 a0 3) 7 fun k30 =>
grd (cpok (a1 * (7 : Int32)) (0 : Int32) (7 : Int32) (SH k22).2 (SH k30).2) <|
nm (stRow S k30 (va_cpy (S.1 k22) (S.1 k30) (a1 * (7 : Int32)).toNatClampNeg (0 : Int32).toNatClampNeg (7 : Int32).toNatClampNeg)) fun S36 =>
nm (stI S36 a0 6 a1) fun S41 =>
some (v20, S41)) else
some ((0 : Int32), S)
set_option maxHeartbeats 4000000 in
set_option maxRecDepth 100000 in
theorem C_X5_goBack (G : aG) (l : Launch) (n : Nat) (S : aSt) (a0 : Nat) (a1 : Int32) (r : Int32) (Sr : aSt) (ha0 : isT a0 4 = true) (hf : F_X5_goBack n S a0 a1 = some (r, Sr)) : Ctr G l yX5_goBack mX5_goBack (rmM 2) 97 97 S [.ref a0, .int a1] (some (.int r)) Sr := by
  refine Ctr.of (by decide) rfl rfl (Nat.le_of_ble_eq_true rfl) [(0, .ref a0), (1, .int a1)] rfl ?_
  unfold F_X5_goBack at hf
  refine Go.iload_n 1 1 rfl dX5_goBack_0 rfl ?_
  refine Go.if_lt 12 4 rfl dX5_goBack_1 rfl (fun hc => ?_) (fun hc => ?_)
  · replace hf := f_if hf hc
    refine Go.iconst (0 : Int32) 13 rfl dX5_goBack_12 ci_0 ?_
    exact Go.irS rfl dX5_goBack_13 hf
  · replace hf := f_el hf hc
    refine Go.iload_n 1 5 rfl dX5_goBack_4 rfl ?_
    refine Go.aload_n 0 6 rfl dX5_goBack_5 rfl ?_
    refine Go.getI 9 rfl dX5_goBack_6 fl_X5_30 rfl (isT_lt ha0) (isT_sh ha0) ?_
    refine Go.icmp_lt 14 12 rfl dX5_goBack_9 rfl (fun hc => ?_) (fun hc => ?_)
    · replace hf := f_if hf hc
      refine Go.aload_n 0 15 rfl dX5_goBack_14 rfl ?_
      refine Go.getI 18 rfl dX5_goBack_15 fl_X5_30 rfl (isT_lt ha0) (isT_sh ha0) ?_
      refine Go.iload_n 1 19 rfl dX5_goBack_18 rfl ?_
      refine Go.isub 20 rfl dX5_goBack_19 ?_
      obtain ⟨v20, ev20, hf⟩ := f_nm hf
      refine Go.topi v20 ev20 ?_
      refine Go.istore_n 21 [(2, .int v20), (0, .ref a0), (1, .int a1)] rfl dX5_goBack_20 (by decide) rfl ?_
      refine Go.aload_n 1 22 rfl dX5_goBack_21 rfl ?_
      obtain ⟨k22, qk22, hk22, hf⟩ := f_rfd hf
      refine Go.getR 25 rfl dX5_goBack_22 fl_X5_27 rfl (isT_lt ha0) (isT_sh ha0) qk22 ?_
      refine Go.iload_n 2 26 rfl dX5_goBack_25 rfl ?_
      refine Go.bipush (7 : Int32) 28 rfl dX5_goBack_26 cb_7 ?_
      refine Go.imul 29 rfl dX5_goBack_28 ?_
      refine Go.aload_n 1 30 rfl dX5_goBack_29 rfl ?_
      obtain ⟨k30, qk30, hk30, hf⟩ := f_rfd hf
      refine Go.getR 33 rfl dX5_goBack_30 fl_X5_21 rfl (isT_lt ha0) (isT_sh ha0) qk30 ?_
      refine Go.iconst (0 : Int32) 34 rfl dX5_goBack_33 ci_0 ?_
      refine Go.bipush (7 : Int32) 36 rfl dX5_goBack_34 cb_7 ?_
      obtain ⟨g36, hf⟩ := f_grd hf
      obtain ⟨S36, eS36, hf⟩ := f_nm hf
      refine Go.acpy 39 rfl dX5_goBack_36 (am_mem 490 (by decide +kernel) rfl) (am_mem 337 (by decide +kernel) rfl) (am_mem 336 (by decide +kernel) rfl) (am_mem 61 (by decide +kernel) rfl) (isT_lt hk22) (isT_sh hk22) (isT_lt hk30) (isT_sh hk30) g36 (by decide) (by decide) (Go.stt S36 eS36 ?_)
      refine Go.aload_n 1 40 rfl dX5_goBack_39 rfl ?_
      refine Go.iload_n 2 41 rfl dX5_goBack_40 rfl ?_
      obtain ⟨S41, eS41, hf⟩ := f_nm hf
      refine Go.putI 44 rfl dX5_goBack_41 fp_X5_30 rfl (isT_lt ha0) (isT_sh ha0) (fun h => by cases h) (Go.stt S41 eS41 ?_)
      refine Go.iload_n 0 45 rfl dX5_goBack_44 rfl ?_
      exact Go.irS rfl dX5_goBack_45 hf
    · replace hf := f_el hf hc
      refine Go.iconst (0 : Int32) 13 rfl dX5_goBack_12 ci_0 ?_
      exact Go.irS rfl dX5_goBack_13 hf
theorem dX5_become_0 : decode cX5_become 0 = .ok (.aload_n 1, 1) := by decide +kernel
theorem dX5_become_1 : decode cX5_become 1 = .ok (.getfield 9, 3) := by decide +kernel
theorem dX5_become_4 : decode cX5_become 4 = .ok (.iconst 0, 1) := by decide +kernel
theorem dX5_become_5 : decode cX5_become 5 = .ok (.aload_n 0, 1) := by decide +kernel
theorem dX5_become_6 : decode cX5_become 6 = .ok (.getfield 9, 3) := by decide +kernel
theorem dX5_become_9 : decode cX5_become 9 = .ok (.iconst 0, 1) := by decide +kernel
theorem dX5_become_10 : decode cX5_become 10 = .ok (.bipush 7, 2) := by decide +kernel
theorem dX5_become_12 : decode cX5_become 12 = .ok (.invokestatic 40, 3) := by decide +kernel
theorem dX5_become_15 : decode cX5_become 15 = .ok (.aload_n 1, 1) := by decide +kernel
theorem dX5_become_16 : decode cX5_become 16 = .ok (.getfield 15, 3) := by decide +kernel
theorem dX5_become_19 : decode cX5_become 19 = .ok (.iconst 0, 1) := by decide +kernel
theorem dX5_become_20 : decode cX5_become 20 = .ok (.aload_n 0, 1) := by decide +kernel
theorem dX5_become_21 : decode cX5_become 21 = .ok (.getfield 15, 3) := by decide +kernel
theorem dX5_become_24 : decode cX5_become 24 = .ok (.iconst 0, 1) := by decide +kernel
theorem dX5_become_25 : decode cX5_become 25 = .ok (.bipush 7, 2) := by decide +kernel
theorem dX5_become_27 : decode cX5_become 27 = .ok (.invokestatic 40, 3) := by decide +kernel
theorem dX5_become_30 : decode cX5_become 30 = .ok (.aload_n 1, 1) := by decide +kernel
theorem dX5_become_31 : decode cX5_become 31 = .ok (.getfield 18, 3) := by decide +kernel
theorem dX5_become_34 : decode cX5_become 34 = .ok (.iconst 0, 1) := by decide +kernel
theorem dX5_become_35 : decode cX5_become 35 = .ok (.aload_n 0, 1) := by decide +kernel
theorem dX5_become_36 : decode cX5_become 36 = .ok (.getfield 18, 3) := by decide +kernel
theorem dX5_become_39 : decode cX5_become 39 = .ok (.iconst 0, 1) := by decide +kernel
theorem dX5_become_40 : decode cX5_become 40 = .ok (.bipush 7, 2) := by decide +kernel
theorem dX5_become_42 : decode cX5_become 42 = .ok (.invokestatic 40, 3) := by decide +kernel
theorem dX5_become_45 : decode cX5_become 45 = .ok (.aload_n 1, 1) := by decide +kernel
theorem dX5_become_46 : decode cX5_become 46 = .ok (.getfield 21, 3) := by decide +kernel
theorem dX5_become_49 : decode cX5_become 49 = .ok (.iconst 0, 1) := by decide +kernel
theorem dX5_become_50 : decode cX5_become 50 = .ok (.aload_n 0, 1) := by decide +kernel
theorem dX5_become_51 : decode cX5_become 51 = .ok (.getfield 21, 3) := by decide +kernel
theorem dX5_become_54 : decode cX5_become 54 = .ok (.iconst 0, 1) := by decide +kernel
theorem dX5_become_55 : decode cX5_become 55 = .ok (.bipush 7, 2) := by decide +kernel
theorem dX5_become_57 : decode cX5_become 57 = .ok (.invokestatic 40, 3) := by decide +kernel
theorem dX5_become_60 : decode cX5_become 60 = .ok (.aload_n 1, 1) := by decide +kernel
theorem dX5_become_61 : decode cX5_become 61 = .ok (.getfield 24, 3) := by decide +kernel
theorem dX5_become_64 : decode cX5_become 64 = .ok (.iconst 0, 1) := by decide +kernel
theorem dX5_become_65 : decode cX5_become 65 = .ok (.aload_n 0, 1) := by decide +kernel
theorem dX5_become_66 : decode cX5_become 66 = .ok (.getfield 24, 3) := by decide +kernel
theorem dX5_become_69 : decode cX5_become 69 = .ok (.iconst 0, 1) := by decide +kernel
theorem dX5_become_70 : decode cX5_become 70 = .ok (.bipush 40, 2) := by decide +kernel
theorem dX5_become_72 : decode cX5_become 72 = .ok (.invokestatic 40, 3) := by decide +kernel
theorem dX5_become_75 : decode cX5_become 75 = .ok (.aload_n 1, 1) := by decide +kernel
theorem dX5_become_76 : decode cX5_become 76 = .ok (.getfield 27, 3) := by decide +kernel
theorem dX5_become_79 : decode cX5_become 79 = .ok (.iconst 0, 1) := by decide +kernel
theorem dX5_become_80 : decode cX5_become 80 = .ok (.aload_n 0, 1) := by decide +kernel
theorem dX5_become_81 : decode cX5_become 81 = .ok (.getfield 27, 3) := by decide +kernel
theorem dX5_become_84 : decode cX5_become 84 = .ok (.iconst 0, 1) := by decide +kernel
theorem dX5_become_85 : decode cX5_become 85 = .ok (.sipush 280, 3) := by decide +kernel
theorem dX5_become_88 : decode cX5_become 88 = .ok (.invokestatic 40, 3) := by decide +kernel
theorem dX5_become_91 : decode cX5_become 91 = .ok (.aload_n 0, 1) := by decide +kernel
theorem dX5_become_92 : decode cX5_become 92 = .ok (.aload_n 1, 1) := by decide +kernel
theorem dX5_become_93 : decode cX5_become 93 = .ok (.getfield 30, 3) := by decide +kernel
theorem dX5_become_96 : decode cX5_become 96 = .ok (.putfield 30, 3) := by decide +kernel
theorem dX5_become_99 : decode cX5_become 99 = .ok (.return_, 1) := by decide +kernel
def F_X5_become (n : Nat) (S : aSt) (a0 : Nat) (a1 : Nat) : Option aSt :=
rfd (S.2.2 a1 0) 7 fun k1 =>
rfd (S.2.2 a0 0) 7 fun k6 =>
grd (cpok (0 : Int32) (0 : Int32) (7 : Int32) (SH k1).2 (SH k6).2) <|
nm (stRow S k6 (va_cpy (S.1 k1) (S.1 k6) (0 : Int32).toNatClampNeg (0 : Int32).toNatClampNeg (7 : Int32).toNatClampNeg)) fun S12 =>
rfd (S12.2.2 a1 1) 7 fun k16 =>
rfd (S12.2.2 a0 1) 7 fun k21 =>
grd (cpok (0 : Int32) (0 : Int32) (7 : Int32) (SH k16).2 (SH k21).2) <|
nm (stRow S12 k21 (va_cpy (S12.1 k16) (S12.1 k21) (0 : Int32).toNatClampNeg (0 : Int32).toNatClampNeg (7 : Int32).toNatClampNeg)) fun S27 =>
rfd (S27.2.2 a1 2) 7 fun k31 =>
rfd (S27.2.2 a0 2) 7 fun k36 =>
grd (cpok (0 : Int32) (0 : Int32) (7 : Int32) (SH k31).2 (SH k36).2) <|
nm (stRow S27 k36 (va_cpy (S27.1 k31) (S27.1 k36) (0 : Int32).toNatClampNeg (0 : Int32).toNatClampNeg (7 : Int32).toNatClampNeg)) fun S42 =>
rfd (S42.2.2 a1 3) 7 fun k46 =>
rfd (S42.2.2 a0 3) 7 fun k51 =>
grd (cpok (0 : Int32) (0 : Int32) (7 : Int32) (SH k46).2 (SH k51).2) <|
nm (stRow S42 k51 (va_cpy (S42.1 k46) (S42.1 k51) (0 : Int32).toNatClampNeg (0 : Int32).toNatClampNeg (7 : Int32).toNatClampNeg)) fun S57 =>
rfd (S57.2.2 a1 4) 7 fun k61 =>
rfd (S57.2.2 a0 4) 7 fun k66 =>
grd (cpok (0 : Int32) (0 : Int32) (40 : Int32) (SH k61).2 (SH k66).2) <|
nm (stRow S57 k66 (va_cpy (S57.1 k61) (S57.1 k66) (0 : Int32).toNatClampNeg (0 : Int32).toNatClampNeg (40 : Int32).toNatClampNeg)) fun S72 =>
rfd (S72.2.2 a1 5) 7 fun k76 =>
rfd (S72.2.2 a0 5) 7 fun k81 =>
grd (cpok (0 : Int32) (0 : Int32) (280 : Int32) (SH k76).2 (SH k81).2) <|
nm (stRow S72 k81 (va_cpy (S72.1 k76) (S72.1 k81) (0 : Int32).toNatClampNeg (0 : Int32).toNatClampNeg (280 : Int32).toNatClampNeg)) fun S88 =>
nm (stI S88 a0 6 (S88.1 a1 6)) fun S96 =>
some S96
set_option maxHeartbeats 4000000 in
set_option maxRecDepth 100000 in
theorem C_X5_become (G : aG) (l : Launch) (n : Nat) (S : aSt) (a0 : Nat) (a1 : Nat) (Sr : aSt) (ha0 : isT a0 4 = true) (ha1 : isT a1 4 = true) (hf : F_X5_become n S a0 a1 = some Sr) : Ctr G l yX5_become mX5_become (rmM 2) 97 97 S [.ref a0, .ref a1] none Sr := by
  refine Ctr.of (by decide) rfl rfl (Nat.le_of_ble_eq_true rfl) [(0, .ref a0), (1, .ref a1)] rfl ?_
  unfold F_X5_become at hf
  refine Go.aload_n 1 1 rfl dX5_become_0 rfl ?_
  obtain ⟨k1, qk1, hk1, hf⟩ := f_rfd hf
  refine Go.getR 4 rfl dX5_become_1 fl_X5_9 rfl (isT_lt ha1) (isT_sh ha1) qk1 ?_
  refine Go.iconst (0 : Int32) 5 rfl dX5_become_4 ci_0 ?_
  refine Go.aload_n 0 6 rfl dX5_become_5 rfl ?_
  obtain ⟨k6, qk6, hk6, hf⟩ := f_rfd hf
  refine Go.getR 9 rfl dX5_become_6 fl_X5_9 rfl (isT_lt ha0) (isT_sh ha0) qk6 ?_
  refine Go.iconst (0 : Int32) 10 rfl dX5_become_9 ci_0 ?_
  refine Go.bipush (7 : Int32) 12 rfl dX5_become_10 cb_7 ?_
  obtain ⟨g12, hf⟩ := f_grd hf
  obtain ⟨S12, eS12, hf⟩ := f_nm hf
  refine Go.acpy 15 rfl dX5_become_12 (am_mem 490 (by decide +kernel) rfl) (am_mem 337 (by decide +kernel) rfl) (am_mem 336 (by decide +kernel) rfl) (am_mem 61 (by decide +kernel) rfl) (isT_lt hk1) (isT_sh hk1) (isT_lt hk6) (isT_sh hk6) g12 (by decide) (by decide) (Go.stt S12 eS12 ?_)
  refine Go.aload_n 1 16 rfl dX5_become_15 rfl ?_
  obtain ⟨k16, qk16, hk16, hf⟩ := f_rfd hf
  refine Go.getR 19 rfl dX5_become_16 fl_X5_15 rfl (isT_lt ha1) (isT_sh ha1) qk16 ?_
  refine Go.iconst (0 : Int32) 20 rfl dX5_become_19 ci_0 ?_
  refine Go.aload_n 0 21 rfl dX5_become_20 rfl ?_
  obtain ⟨k21, qk21, hk21, hf⟩ := f_rfd hf
  refine Go.getR 24 rfl dX5_become_21 fl_X5_15 rfl (isT_lt ha0) (isT_sh ha0) qk21 ?_
  refine Go.iconst (0 : Int32) 25 rfl dX5_become_24 ci_0 ?_
  refine Go.bipush (7 : Int32) 27 rfl dX5_become_25 cb_7 ?_
  obtain ⟨g27, hf⟩ := f_grd hf
  obtain ⟨S27, eS27, hf⟩ := f_nm hf
  refine Go.acpy 30 rfl dX5_become_27 (am_mem 490 (by decide +kernel) rfl) (am_mem 337 (by decide +kernel) rfl) (am_mem 336 (by decide +kernel) rfl) (am_mem 61 (by decide +kernel) rfl) (isT_lt hk16) (isT_sh hk16) (isT_lt hk21) (isT_sh hk21) g27 (by decide) (by decide) (Go.stt S27 eS27 ?_)
  refine Go.aload_n 1 31 rfl dX5_become_30 rfl ?_
  obtain ⟨k31, qk31, hk31, hf⟩ := f_rfd hf
  refine Go.getR 34 rfl dX5_become_31 fl_X5_18 rfl (isT_lt ha1) (isT_sh ha1) qk31 ?_
  refine Go.iconst (0 : Int32) 35 rfl dX5_become_34 ci_0 ?_
  refine Go.aload_n 0 36 rfl dX5_become_35 rfl ?_
  obtain ⟨k36, qk36, hk36, hf⟩ := f_rfd hf
  refine Go.getR 39 rfl dX5_become_36 fl_X5_18 rfl (isT_lt ha0) (isT_sh ha0) qk36 ?_
  refine Go.iconst (0 : Int32) 40 rfl dX5_become_39 ci_0 ?_
  refine Go.bipush (7 : Int32) 42 rfl dX5_become_40 cb_7 ?_
  obtain ⟨g42, hf⟩ := f_grd hf
  obtain ⟨S42, eS42, hf⟩ := f_nm hf
  refine Go.acpy 45 rfl dX5_become_42 (am_mem 490 (by decide +kernel) rfl) (am_mem 337 (by decide +kernel) rfl) (am_mem 336 (by decide +kernel) rfl) (am_mem 61 (by decide +kernel) rfl) (isT_lt hk31) (isT_sh hk31) (isT_lt hk36) (isT_sh hk36) g42 (by decide) (by decide) (Go.stt S42 eS42 ?_)
  refine Go.aload_n 1 46 rfl dX5_become_45 rfl ?_
  obtain ⟨k46, qk46, hk46, hf⟩ := f_rfd hf
  refine Go.getR 49 rfl dX5_become_46 fl_X5_21 rfl (isT_lt ha1) (isT_sh ha1) qk46 ?_
  refine Go.iconst (0 : Int32) 50 rfl dX5_become_49 ci_0 ?_
  refine Go.aload_n 0 51 rfl dX5_become_50 rfl ?_
  obtain ⟨k51, qk51, hk51, hf⟩ := f_rfd hf
  refine Go.getR 54 rfl dX5_become_51 fl_X5_21 rfl (isT_lt ha0) (isT_sh ha0) qk51 ?_
  refine Go.iconst (0 : Int32) 55 rfl dX5_become_54 ci_0 ?_
  refine Go.bipush (7 : Int32) 57 rfl dX5_become_55 cb_7 ?_
  obtain ⟨g57, hf⟩ := f_grd hf
  obtain ⟨S57, eS57, hf⟩ := f_nm hf
  refine Go.acpy 60 rfl dX5_become_57 (am_mem 490 (by decide +kernel) rfl) (am_mem 337 (by decide +kernel) rfl) (am_mem 336 (by decide +kernel) rfl) (am_mem 61 (by decide +kernel) rfl) (isT_lt hk46) (isT_sh hk46) (isT_lt hk51) (isT_sh hk51) g57 (by decide) (by decide) (Go.stt S57 eS57 ?_)
  refine Go.aload_n 1 61 rfl dX5_become_60 rfl ?_
  obtain ⟨k61, qk61, hk61, hf⟩ := f_rfd hf
  refine Go.getR 64 rfl dX5_become_61 fl_X5_24 rfl (isT_lt ha1) (isT_sh ha1) qk61 ?_
  refine Go.iconst (0 : Int32) 65 rfl dX5_become_64 ci_0 ?_
  refine Go.aload_n 0 66 rfl dX5_become_65 rfl ?_
  obtain ⟨k66, qk66, hk66, hf⟩ := f_rfd hf
  refine Go.getR 69 rfl dX5_become_66 fl_X5_24 rfl (isT_lt ha0) (isT_sh ha0) qk66 ?_
  refine Go.iconst (0 : Int32) 70 rfl dX5_become_69 ci_0 ?_
  refine Go.bipush (40 : Int32) 72 rfl dX5_become_70 cb_40 ?_
  obtain ⟨g72, hf⟩ := f_grd hf
  obtain ⟨S72, eS72, hf⟩ := f_nm hf
  refine Go.acpy 75 rfl dX5_become_72 (am_mem 490 (by decide +kernel) rfl) (am_mem 337 (by decide +kernel) rfl) (am_mem 336 (by decide +kernel) rfl) (am_mem 61 (by decide +kernel) rfl) (isT_lt hk61) (isT_sh hk61) (isT_lt hk66) (isT_sh hk66) g72 (by decide) (by decide) (Go.stt S72 eS72 ?_)
  refine Go.aload_n 1 76 rfl dX5_become_75 rfl ?_
  obtain ⟨k76, qk76, hk76, hf⟩ := f_rfd hf
  refine Go.getR 79 rfl dX5_become_76 fl_X5_27 rfl (isT_lt ha1) (isT_sh ha1) qk76 ?_
  refine Go.iconst (0 : Int32) 80 rfl dX5_become_79 ci_0 ?_
  refine Go.aload_n 0 81 rfl dX5_become_80 rfl ?_
  obtain ⟨k81, qk81, hk81, hf⟩ := f_rfd hf
  refine Go.getR 84 rfl dX5_become_81 fl_X5_27 rfl (isT_lt ha0) (isT_sh ha0) qk81 ?_
  refine Go.iconst (0 : Int32) 85 rfl dX5_become_84 ci_0 ?_
  refine Go.sipush (280 : Int32) 88 rfl dX5_become_85 cs_280 ?_
  obtain ⟨g88, hf⟩ := f_grd hf
  obtain ⟨S88, eS88, hf⟩ := f_nm hf
  refine Go.acpy 91 rfl dX5_become_88 (am_mem 490 (by decide +kernel) rfl) (am_mem 337 (by decide +kernel) rfl) (am_mem 336 (by decide +kernel) rfl) (am_mem 61 (by decide +kernel) rfl) (isT_lt hk76) (isT_sh hk76) (isT_lt hk81) (isT_sh hk81) g88 (by decide) (by decide) (Go.stt S88 eS88 ?_)
  refine Go.aload_n 0 92 rfl dX5_become_91 rfl ?_
  refine Go.aload_n 1 93 rfl dX5_become_92 rfl ?_
  refine Go.getI 96 rfl dX5_become_93 fl_X5_30 rfl (isT_lt ha1) (isT_sh ha1) ?_
  obtain ⟨S96, eS96, hf⟩ := f_nm hf
  refine Go.putI 99 rfl dX5_become_96 fp_X5_30 rfl (isT_lt ha0) (isT_sh ha0) (fun h => by cases h) (Go.stt S96 eS96 ?_)
  exact Go.vr rfl dX5_become_99 hf
end
section
/-! written by program: X1_pastBlanks X1_figure X1_readCard X1_readQuestion X1_readFrom X1_isCard X1_isQuestion X1_allCards X1_isFreeCard X1_isFreeQuestion X1_freeCards X1_answered X1_meaningOf X1_isFitting X1_fittingCards -/
theorem dX1_pastBlanks_0 : decode cX1_pastBlanks 0 = .ok (.iload_n 1, 1) := by decide +kernel
theorem dX1_pastBlanks_1 : decode cX1_pastBlanks 1 = .ok (.istore_n 2, 1) := by decide +kernel
theorem dX1_pastBlanks_2 : decode cX1_pastBlanks 2 = .ok (.iload_n 2, 1) := by decide +kernel
theorem dX1_pastBlanks_3 : decode cX1_pastBlanks 3 = .ok (.aload_n 0, 1) := by decide +kernel
theorem dX1_pastBlanks_4 : decode cX1_pastBlanks 4 = .ok (.getfield 47, 3) := by decide +kernel
theorem dX1_pastBlanks_7 : decode cX1_pastBlanks 7 = .ok (.if_icmp .ge 22, 3) := by decide +kernel
theorem dX1_pastBlanks_10 : decode cX1_pastBlanks 10 = .ok (.aload_n 0, 1) := by decide +kernel
theorem dX1_pastBlanks_11 : decode cX1_pastBlanks 11 = .ok (.getfield 60, 3) := by decide +kernel
theorem dX1_pastBlanks_14 : decode cX1_pastBlanks 14 = .ok (.iload_n 2, 1) := by decide +kernel
theorem dX1_pastBlanks_15 : decode cX1_pastBlanks 15 = .ok (.iaload, 1) := by decide +kernel
theorem dX1_pastBlanks_16 : decode cX1_pastBlanks 16 = .ok (.bipush 32, 2) := by decide +kernel
theorem dX1_pastBlanks_18 : decode cX1_pastBlanks 18 = .ok (.if_icmp .eq 5, 3) := by decide +kernel
theorem dX1_pastBlanks_21 : decode cX1_pastBlanks 21 = .ok (.iload_n 2, 1) := by decide +kernel
theorem dX1_pastBlanks_22 : decode cX1_pastBlanks 22 = .ok (.ireturn, 1) := by decide +kernel
theorem dX1_pastBlanks_23 : decode cX1_pastBlanks 23 = .ok (.iinc 2 1, 3) := by decide +kernel
theorem dX1_pastBlanks_26 : decode cX1_pastBlanks 26 = .ok (.goto (-24), 3) := by decide +kernel
theorem dX1_pastBlanks_29 : decode cX1_pastBlanks 29 = .ok (.aload_n 0, 1) := by decide +kernel
theorem dX1_pastBlanks_30 : decode cX1_pastBlanks 30 = .ok (.getfield 47, 3) := by decide +kernel
theorem dX1_pastBlanks_33 : decode cX1_pastBlanks 33 = .ok (.ireturn, 1) := by decide +kernel
def F_X1_pastBlanks_L2 (S : aSt) (a0 : Nat) (K29 : Option Int32) : Nat → Int32 → Option Int32
  | 0, _ => none
  | fu + 1, l2_2 =>
    if (S.1 a0 1) ≤ l2_2 then (K29) else
    rfd (S.2.2 a0 0) 7 fun k11 =>
    grd (inb l2_2 (SH k11).2) <|
    if (S.1 k11 l2_2.toNatClampNeg) = (32 : Int32) then (F_X1_pastBlanks_L2 S a0 K29 fu (l2_2 + (1 : Int32))) else
    some l2_2
def F_X1_pastBlanks (n : Nat) (S : aSt) (a0 : Nat) (a1 : Int32) : Option Int32 :=
jn ((some (S.1 a0 1) : Option Int32)) fun K29 =>
F_X1_pastBlanks_L2 S a0 K29 n a1
set_option maxHeartbeats 4000000 in
set_option maxRecDepth 100000 in
theorem C_X1_pastBlanks (G : aG) (l : Launch) (n : Nat) (S : aSt) (a0 : Nat) (a1 : Int32) (r : Int32) (ha0 : isT a0 3 = true) (hf : F_X1_pastBlanks n S a0 a1 = some r) : Ctr G l yX1_pastBlanks mX1_pastBlanks (rmM 1) 97 97 S [.ref a0, .int a1] (some (.int r)) S := by
  refine Ctr.of (by decide) rfl rfl (Nat.le_of_ble_eq_true rfl) [(0, .ref a0), (1, .int a1)] rfl ?_
  unfold F_X1_pastBlanks at hf
  refine Go.iload_n 1 1 rfl dX1_pastBlanks_0 rfl ?_
  refine Go.istore_n 2 [(2, .int a1), (0, .ref a0), (1, .int a1)] rfl dX1_pastBlanks_1 (by decide) rfl ?_
  obtain ⟨K29, eK29, hf⟩ := f_jn hf
  have J29 : K29 = some r → GoM G l 1 (TmR G (some (.int r)) 97 S 0 0) mX1_pastBlanks 29 [(0, .ref a0)] [] S := by
    intro hf
    rw [eK29] at hf
    refine Go.aload_n 0 30 rfl dX1_pastBlanks_29 rfl ?_
    refine Go.getI 33 rfl dX1_pastBlanks_30 fl_X1_47 rfl (isT_lt ha0) (isT_sh ha0) ?_
    exact Go.ir rfl dX1_pastBlanks_33 hf
  clear eK29
  have L2 : ∀ (fu : Nat) (l2_2 : Int32), F_X1_pastBlanks_L2 S a0 K29 fu l2_2 = some r → GoM G l 1 (TmR G (some (.int r)) 97 S 0 0) mX1_pastBlanks 2 [(0, .ref a0), (2, .int l2_2)] [] S := by
    intro fu
    induction fu with
    | zero => intro l2_2 hf; rw [F_X1_pastBlanks_L2] at hf; cases hf
    | succ fu ih =>
      intro l2_2 hf
      rw [F_X1_pastBlanks_L2] at hf
      refine Go.iload_n 1 3 rfl dX1_pastBlanks_2 rfl ?_
      refine Go.aload_n 0 4 rfl dX1_pastBlanks_3 rfl ?_
      refine Go.getI 7 rfl dX1_pastBlanks_4 fl_X1_47 rfl (isT_lt ha0) (isT_sh ha0) ?_
      refine Go.icmp_ge 29 10 rfl dX1_pastBlanks_7 rfl (fun hc => ?_) (fun hc => ?_)
      · replace hf := f_if hf hc
        exact Go.sub [0] [(0, .ref a0)] rfl (J29 hf)
      · replace hf := f_el hf hc
        refine Go.aload_n 0 11 rfl dX1_pastBlanks_10 rfl ?_
        obtain ⟨k11, qk11, hk11, hf⟩ := f_rfd hf
        refine Go.getR 14 rfl dX1_pastBlanks_11 fl_X1_60 rfl (isT_lt ha0) (isT_sh ha0) qk11 ?_
        refine Go.iload_n 1 15 rfl dX1_pastBlanks_14 rfl ?_
        obtain ⟨g15, hf⟩ := f_grd hf
        refine Go.iald 16 rfl dX1_pastBlanks_15 (isT_lt hk11) (isT_sh hk11) g15 ?_
        refine Go.bipush (32 : Int32) 18 rfl dX1_pastBlanks_16 cb_32 ?_
        refine Go.icmp_eq 23 21 rfl dX1_pastBlanks_18 rfl (fun hc => ?_) (fun hc => ?_)
        · replace hf := f_if hf hc
          refine Go.inc 1 26 (1 : Int32) [(2, .int (l2_2 + (1 : Int32))), (0, .ref a0)] rfl dX1_pastBlanks_23 rfl ci_1 (by decide) rfl ?_
          refine Go.goto 2 dX1_pastBlanks_26 rfl ?_
          exact Go.sub [1, 0] [(0, .ref a0), (2, .int (l2_2 + (1 : Int32)))] rfl (ih (l2_2 + (1 : Int32)) hf)
        · replace hf := f_el hf hc
          refine Go.iload_n 1 22 rfl dX1_pastBlanks_21 rfl ?_
          exact Go.ir rfl dX1_pastBlanks_22 hf
  exact Go.sub [1, 0] [(0, .ref a0), (2, .int a1)] rfl (L2 n a1 hf)
theorem dX1_figure_0 : decode cX1_figure 0 = .ok (.aload_n 0, 1) := by decide +kernel
theorem dX1_figure_1 : decode cX1_figure 1 = .ok (.iload_n 1, 1) := by decide +kernel
theorem dX1_figure_2 : decode cX1_figure 2 = .ok (.invokevirtual 56, 3) := by decide +kernel
theorem dX1_figure_5 : decode cX1_figure 5 = .ok (.ifCond .ne 6, 3) := by decide +kernel
theorem dX1_figure_8 : decode cX1_figure 8 = .ok (.bipush (-9), 2) := by decide +kernel
theorem dX1_figure_10 : decode cX1_figure 10 = .ok (.ireturn, 1) := by decide +kernel
theorem dX1_figure_11 : decode cX1_figure 11 = .ok (.aload_n 0, 1) := by decide +kernel
theorem dX1_figure_12 : decode cX1_figure 12 = .ok (.getfield 60, 3) := by decide +kernel
theorem dX1_figure_15 : decode cX1_figure 15 = .ok (.iload_n 1, 1) := by decide +kernel
theorem dX1_figure_16 : decode cX1_figure 16 = .ok (.iaload, 1) := by decide +kernel
theorem dX1_figure_17 : decode cX1_figure 17 = .ok (.bipush 48, 2) := by decide +kernel
theorem dX1_figure_19 : decode cX1_figure 19 = .ok (.isub, 1) := by decide +kernel
theorem dX1_figure_20 : decode cX1_figure 20 = .ok (.istore 4, 2) := by decide +kernel
theorem dX1_figure_22 : decode cX1_figure 22 = .ok (.iload 4, 2) := by decide +kernel
theorem dX1_figure_24 : decode cX1_figure 24 = .ok (.iload_n 2, 1) := by decide +kernel
theorem dX1_figure_25 : decode cX1_figure 25 = .ok (.iconst 0, 1) := by decide +kernel
theorem dX1_figure_26 : decode cX1_figure 26 = .ok (.invokestatic 85, 3) := by decide +kernel
theorem dX1_figure_29 : decode cX1_figure 29 = .ok (.if_icmp .lt 14, 3) := by decide +kernel
theorem dX1_figure_32 : decode cX1_figure 32 = .ok (.iload 4, 2) := by decide +kernel
theorem dX1_figure_34 : decode cX1_figure 34 = .ok (.iload_n 3, 1) := by decide +kernel
theorem dX1_figure_35 : decode cX1_figure 35 = .ok (.if_icmp .gt 8, 3) := by decide +kernel
theorem dX1_figure_38 : decode cX1_figure 38 = .ok (.iload 4, 2) := by decide +kernel
theorem dX1_figure_40 : decode cX1_figure 40 = .ok (.goto 5, 3) := by decide +kernel
theorem dX1_figure_43 : decode cX1_figure 43 = .ok (.bipush (-9), 2) := by decide +kernel
theorem dX1_figure_45 : decode cX1_figure 45 = .ok (.ireturn, 1) := by decide +kernel
def F_X1_figure (n : Nat) (S : aSt) (a0 : Nat) (a1 : Int32) (a2 : Int32) (a3 : Int32) : Option Int32 :=
(F_X4_reaches n S a0 a1).bind fun r2 =>
if r2 = 0 then (some (-9 : Int32)) else
rfd (S.2.2 a0 0) 7 fun k12 =>
grd (inb a1 (SH k12).2) <|
nm ((S.1 k12 a1.toNatClampNeg) - (48 : Int32)) fun v20 =>
if v20 < (if a2 < (0 : Int32) then (0 : Int32) else a2) then (some (-9 : Int32)) else
if a3 < v20 then (some (-9 : Int32)) else
some v20
set_option maxHeartbeats 4000000 in
set_option maxRecDepth 100000 in
theorem C_X1_figure (G : aG) (l : Launch) (n : Nat) (S : aSt) (a0 : Nat) (a1 : Int32) (a2 : Int32) (a3 : Int32) (r : Int32) (ha0 : isT a0 3 = true) (hf : F_X1_figure n S a0 a1 a2 a3 = some r) : Ctr G l yX1_figure mX1_figure (rmM 2) 97 97 S [.ref a0, .int a1, .int a2, .int a3] (some (.int r)) S := by
  refine Ctr.of (by decide) rfl rfl (Nat.le_of_ble_eq_true rfl) [(0, .ref a0), (1, .int a1), (2, .int a2), (3, .int a3)] rfl ?_
  unfold F_X1_figure at hf
  refine Go.aload_n 0 1 rfl dX1_figure_0 rfl ?_
  refine Go.iload_n 1 2 rfl dX1_figure_1 rfl ?_
  obtain ⟨r2, er2, hf⟩ := f_bnd hf
  refine Go.cV 5 [.int a1] [] (C_X4_reaches G l n S a0 a1 r2 ha0 er2) rfl dX1_figure_2 cv_X1_56 ha0 (by decide) (by decide) rfl (Nat.le_of_ble_eq_true rfl) ?_
  refine Go.if_ne 11 8 rfl dX1_figure_5 rfl (fun hc => ?_) (fun hc => ?_)
  · replace hf := f_el hf hc
    refine Go.aload_n 0 12 rfl dX1_figure_11 rfl ?_
    obtain ⟨k12, qk12, hk12, hf⟩ := f_rfd hf
    refine Go.getR 15 rfl dX1_figure_12 fl_X1_60 rfl (isT_lt ha0) (isT_sh ha0) qk12 ?_
    refine Go.iload_n 1 16 rfl dX1_figure_15 rfl ?_
    obtain ⟨g16, hf⟩ := f_grd hf
    refine Go.iald 17 rfl dX1_figure_16 (isT_lt hk12) (isT_sh hk12) g16 ?_
    refine Go.bipush (48 : Int32) 19 rfl dX1_figure_17 cb_48 ?_
    refine Go.isub 20 rfl dX1_figure_19 ?_
    obtain ⟨v20, ev20, hf⟩ := f_nm hf
    refine Go.topi v20 ev20 ?_
    refine Go.istore 22 [(4, .int v20), (0, .ref a0), (1, .int a1), (2, .int a2), (3, .int a3)] rfl dX1_figure_20 (by decide) rfl ?_
    refine Go.iload 0 24 rfl dX1_figure_22 rfl ?_
    refine Go.iload_n 3 25 rfl dX1_figure_24 rfl ?_
    refine Go.iconst (0 : Int32) 26 rfl dX1_figure_25 ci_0 ?_
    refine Go.mmax 29 rfl dX1_figure_26 (am_mem 372 (by decide +kernel) rfl) (am_mem 237 (by decide +kernel) rfl) (am_mem 59 (by decide +kernel) rfl) (am_mem 238 (by decide +kernel) rfl) (Nat.le_of_ble_eq_true rfl) ?_
    refine Go.icmp_lt 43 32 rfl dX1_figure_29 rfl (fun hc => ?_) (fun hc => ?_)
    · replace hf := f_if hf hc
      refine Go.bipush (-9 : Int32) 45 rfl dX1_figure_43 cb_m9 ?_
      exact Go.ir rfl dX1_figure_45 hf
    · replace hf := f_el hf hc
      refine Go.iload 0 34 rfl dX1_figure_32 rfl ?_
      refine Go.iload_n 4 35 rfl dX1_figure_34 rfl ?_
      refine Go.icmp_gt 43 38 rfl dX1_figure_35 rfl (fun hc => ?_) (fun hc => ?_)
      · replace hf := f_if hf hc
        refine Go.bipush (-9 : Int32) 45 rfl dX1_figure_43 cb_m9 ?_
        exact Go.ir rfl dX1_figure_45 hf
      · replace hf := f_el hf hc
        refine Go.iload 0 40 rfl dX1_figure_38 rfl ?_
        refine Go.goto 45 dX1_figure_40 rfl ?_
        exact Go.ir rfl dX1_figure_45 hf
  · replace hf := f_if hf hc
    refine Go.bipush (-9 : Int32) 10 rfl dX1_figure_8 cb_m9 ?_
    exact Go.ir rfl dX1_figure_10 hf
theorem dX1_readCard_0 : decode cX1_readCard 0 = .ok (.aload_n 1, 1) := by decide +kernel
theorem dX1_readCard_1 : decode cX1_readCard 1 = .ok (.getfield 60, 3) := by decide +kernel
theorem dX1_readCard_4 : decode cX1_readCard 4 = .ok (.iload_n 2, 1) := by decide +kernel
theorem dX1_readCard_5 : decode cX1_readCard 5 = .ok (.iaload, 1) := by decide +kernel
theorem dX1_readCard_6 : decode cX1_readCard 6 = .ok (.invokestatic 69, 3) := by decide +kernel
theorem dX1_readCard_9 : decode cX1_readCard 9 = .ok (.istore_n 3, 1) := by decide +kernel
theorem dX1_readCard_10 : decode cX1_readCard 10 = .ok (.iload_n 3, 1) := by decide +kernel
theorem dX1_readCard_11 : decode cX1_readCard 11 = .ok (.bipush (-9), 2) := by decide +kernel
theorem dX1_readCard_13 : decode cX1_readCard 13 = .ok (.if_icmp .eq 19, 3) := by decide +kernel
theorem dX1_readCard_16 : decode cX1_readCard 16 = .ok (.aload_n 0, 1) := by decide +kernel
theorem dX1_readCard_17 : decode cX1_readCard 17 = .ok (.getfield 41, 3) := by decide +kernel
theorem dX1_readCard_20 : decode cX1_readCard 20 = .ok (.ifCond .gt 12, 3) := by decide +kernel
theorem dX1_readCard_23 : decode cX1_readCard 23 = .ok (.aload_n 0, 1) := by decide +kernel
theorem dX1_readCard_24 : decode cX1_readCard 24 = .ok (.getfield 37, 3) := by decide +kernel
theorem dX1_readCard_27 : decode cX1_readCard 27 = .ok (.bipush 7, 2) := by decide +kernel
theorem dX1_readCard_29 : decode cX1_readCard 29 = .ok (.if_icmp .lt 5, 3) := by decide +kernel
theorem dX1_readCard_32 : decode cX1_readCard 32 = .ok (.iload_n 2, 1) := by decide +kernel
theorem dX1_readCard_33 : decode cX1_readCard 33 = .ok (.ireturn, 1) := by decide +kernel
theorem dX1_readCard_34 : decode cX1_readCard 34 = .ok (.aload_n 0, 1) := by decide +kernel
theorem dX1_readCard_35 : decode cX1_readCard 35 = .ok (.getfield 9, 3) := by decide +kernel
theorem dX1_readCard_38 : decode cX1_readCard 38 = .ok (.aload_n 0, 1) := by decide +kernel
theorem dX1_readCard_39 : decode cX1_readCard 39 = .ok (.getfield 37, 3) := by decide +kernel
theorem dX1_readCard_42 : decode cX1_readCard 42 = .ok (.iload_n 3, 1) := by decide +kernel
theorem dX1_readCard_43 : decode cX1_readCard 43 = .ok (.iastore, 1) := by decide +kernel
theorem dX1_readCard_44 : decode cX1_readCard 44 = .ok (.aload_n 0, 1) := by decide +kernel
theorem dX1_readCard_45 : decode cX1_readCard 45 = .ok (.getfield 15, 3) := by decide +kernel
theorem dX1_readCard_48 : decode cX1_readCard 48 = .ok (.aload_n 0, 1) := by decide +kernel
theorem dX1_readCard_49 : decode cX1_readCard 49 = .ok (.getfield 37, 3) := by decide +kernel
theorem dX1_readCard_52 : decode cX1_readCard 52 = .ok (.aload_n 1, 1) := by decide +kernel
theorem dX1_readCard_53 : decode cX1_readCard 53 = .ok (.iload_n 2, 1) := by decide +kernel
theorem dX1_readCard_54 : decode cX1_readCard 54 = .ok (.iconst 1, 1) := by decide +kernel
theorem dX1_readCard_55 : decode cX1_readCard 55 = .ok (.iadd, 1) := by decide +kernel
theorem dX1_readCard_56 : decode cX1_readCard 56 = .ok (.iconst 0, 1) := by decide +kernel
theorem dX1_readCard_57 : decode cX1_readCard 57 = .ok (.bipush 9, 2) := by decide +kernel
theorem dX1_readCard_59 : decode cX1_readCard 59 = .ok (.invokestatic 75, 3) := by decide +kernel
theorem dX1_readCard_62 : decode cX1_readCard 62 = .ok (.iastore, 1) := by decide +kernel
theorem dX1_readCard_63 : decode cX1_readCard 63 = .ok (.aload_n 0, 1) := by decide +kernel
theorem dX1_readCard_64 : decode cX1_readCard 64 = .ok (.getfield 33, 3) := by decide +kernel
theorem dX1_readCard_67 : decode cX1_readCard 67 = .ok (.getfield 79, 3) := by decide +kernel
theorem dX1_readCard_70 : decode cX1_readCard 70 = .ok (.aload_n 0, 1) := by decide +kernel
theorem dX1_readCard_71 : decode cX1_readCard 71 = .ok (.getfield 37, 3) := by decide +kernel
theorem dX1_readCard_74 : decode cX1_readCard 74 = .ok (.aload_n 1, 1) := by decide +kernel
theorem dX1_readCard_75 : decode cX1_readCard 75 = .ok (.iload_n 2, 1) := by decide +kernel
theorem dX1_readCard_76 : decode cX1_readCard 76 = .ok (.iconst 2, 1) := by decide +kernel
theorem dX1_readCard_77 : decode cX1_readCard 77 = .ok (.iadd, 1) := by decide +kernel
theorem dX1_readCard_78 : decode cX1_readCard 78 = .ok (.iconst 0, 1) := by decide +kernel
theorem dX1_readCard_79 : decode cX1_readCard 79 = .ok (.iconst 3, 1) := by decide +kernel
theorem dX1_readCard_80 : decode cX1_readCard 80 = .ok (.invokestatic 75, 3) := by decide +kernel
theorem dX1_readCard_83 : decode cX1_readCard 83 = .ok (.iastore, 1) := by decide +kernel
theorem dX1_readCard_84 : decode cX1_readCard 84 = .ok (.aload_n 0, 1) := by decide +kernel
theorem dX1_readCard_85 : decode cX1_readCard 85 = .ok (.getfield 33, 3) := by decide +kernel
theorem dX1_readCard_88 : decode cX1_readCard 88 = .ok (.getfield 82, 3) := by decide +kernel
theorem dX1_readCard_91 : decode cX1_readCard 91 = .ok (.aload_n 0, 1) := by decide +kernel
theorem dX1_readCard_92 : decode cX1_readCard 92 = .ok (.getfield 37, 3) := by decide +kernel
theorem dX1_readCard_95 : decode cX1_readCard 95 = .ok (.aload_n 1, 1) := by decide +kernel
theorem dX1_readCard_96 : decode cX1_readCard 96 = .ok (.iload_n 2, 1) := by decide +kernel
theorem dX1_readCard_97 : decode cX1_readCard 97 = .ok (.iconst 3, 1) := by decide +kernel
theorem dX1_readCard_98 : decode cX1_readCard 98 = .ok (.iadd, 1) := by decide +kernel
theorem dX1_readCard_99 : decode cX1_readCard 99 = .ok (.iconst 0, 1) := by decide +kernel
theorem dX1_readCard_100 : decode cX1_readCard 100 = .ok (.bipush 9, 2) := by decide +kernel
theorem dX1_readCard_102 : decode cX1_readCard 102 = .ok (.invokestatic 75, 3) := by decide +kernel
theorem dX1_readCard_105 : decode cX1_readCard 105 = .ok (.iastore, 1) := by decide +kernel
theorem dX1_readCard_106 : decode cX1_readCard 106 = .ok (.aload_n 0, 1) := by decide +kernel
theorem dX1_readCard_107 : decode cX1_readCard 107 = .ok (.getfield 15, 3) := by decide +kernel
theorem dX1_readCard_110 : decode cX1_readCard 110 = .ok (.aload_n 0, 1) := by decide +kernel
theorem dX1_readCard_111 : decode cX1_readCard 111 = .ok (.getfield 37, 3) := by decide +kernel
theorem dX1_readCard_114 : decode cX1_readCard 114 = .ok (.iaload, 1) := by decide +kernel
theorem dX1_readCard_115 : decode cX1_readCard 115 = .ok (.bipush (-9), 2) := by decide +kernel
theorem dX1_readCard_117 : decode cX1_readCard 117 = .ok (.if_icmp .ne 7, 3) := by decide +kernel
theorem dX1_readCard_120 : decode cX1_readCard 120 = .ok (.iload_n 2, 1) := by decide +kernel
theorem dX1_readCard_121 : decode cX1_readCard 121 = .ok (.iconst 1, 1) := by decide +kernel
theorem dX1_readCard_122 : decode cX1_readCard 122 = .ok (.iadd, 1) := by decide +kernel
theorem dX1_readCard_123 : decode cX1_readCard 123 = .ok (.ireturn, 1) := by decide +kernel
theorem dX1_readCard_124 : decode cX1_readCard 124 = .ok (.aload_n 0, 1) := by decide +kernel
theorem dX1_readCard_125 : decode cX1_readCard 125 = .ok (.getfield 33, 3) := by decide +kernel
theorem dX1_readCard_128 : decode cX1_readCard 128 = .ok (.getfield 79, 3) := by decide +kernel
theorem dX1_readCard_131 : decode cX1_readCard 131 = .ok (.aload_n 0, 1) := by decide +kernel
theorem dX1_readCard_132 : decode cX1_readCard 132 = .ok (.getfield 37, 3) := by decide +kernel
theorem dX1_readCard_135 : decode cX1_readCard 135 = .ok (.iaload, 1) := by decide +kernel
theorem dX1_readCard_136 : decode cX1_readCard 136 = .ok (.bipush (-9), 2) := by decide +kernel
theorem dX1_readCard_138 : decode cX1_readCard 138 = .ok (.if_icmp .ne 7, 3) := by decide +kernel
theorem dX1_readCard_141 : decode cX1_readCard 141 = .ok (.iload_n 2, 1) := by decide +kernel
theorem dX1_readCard_142 : decode cX1_readCard 142 = .ok (.iconst 2, 1) := by decide +kernel
theorem dX1_readCard_143 : decode cX1_readCard 143 = .ok (.iadd, 1) := by decide +kernel
theorem dX1_readCard_144 : decode cX1_readCard 144 = .ok (.ireturn, 1) := by decide +kernel
theorem dX1_readCard_145 : decode cX1_readCard 145 = .ok (.aload_n 0, 1) := by decide +kernel
theorem dX1_readCard_146 : decode cX1_readCard 146 = .ok (.getfield 33, 3) := by decide +kernel
theorem dX1_readCard_149 : decode cX1_readCard 149 = .ok (.getfield 82, 3) := by decide +kernel
theorem dX1_readCard_152 : decode cX1_readCard 152 = .ok (.aload_n 0, 1) := by decide +kernel
theorem dX1_readCard_153 : decode cX1_readCard 153 = .ok (.getfield 37, 3) := by decide +kernel
theorem dX1_readCard_156 : decode cX1_readCard 156 = .ok (.iaload, 1) := by decide +kernel
theorem dX1_readCard_157 : decode cX1_readCard 157 = .ok (.bipush (-9), 2) := by decide +kernel
theorem dX1_readCard_159 : decode cX1_readCard 159 = .ok (.if_icmp .ne 7, 3) := by decide +kernel
theorem dX1_readCard_162 : decode cX1_readCard 162 = .ok (.iload_n 2, 1) := by decide +kernel
theorem dX1_readCard_163 : decode cX1_readCard 163 = .ok (.iconst 3, 1) := by decide +kernel
theorem dX1_readCard_164 : decode cX1_readCard 164 = .ok (.iadd, 1) := by decide +kernel
theorem dX1_readCard_165 : decode cX1_readCard 165 = .ok (.ireturn, 1) := by decide +kernel
theorem dX1_readCard_166 : decode cX1_readCard 166 = .ok (.aload_n 0, 1) := by decide +kernel
theorem dX1_readCard_167 : decode cX1_readCard 167 = .ok (.dup, 1) := by decide +kernel
theorem dX1_readCard_168 : decode cX1_readCard 168 = .ok (.getfield 37, 3) := by decide +kernel
theorem dX1_readCard_171 : decode cX1_readCard 171 = .ok (.iconst 1, 1) := by decide +kernel
theorem dX1_readCard_172 : decode cX1_readCard 172 = .ok (.iadd, 1) := by decide +kernel
theorem dX1_readCard_173 : decode cX1_readCard 173 = .ok (.putfield 37, 3) := by decide +kernel
theorem dX1_readCard_176 : decode cX1_readCard 176 = .ok (.bipush (-9), 2) := by decide +kernel
theorem dX1_readCard_178 : decode cX1_readCard 178 = .ok (.ireturn, 1) := by decide +kernel
def F_X1_readCard (n : Nat) (S : aSt) (a0 : Nat) (a1 : Nat) (a2 : Int32) : Option (Int32 × aSt) :=
rfd (S.2.2 a1 0) 7 fun k1 =>
grd (inb a2 (SH k1).2) <|
(F_X0_ofLetter n S (S.1 k1 a2.toNatClampNeg)).bind fun r6 =>
jn (fun (j32S : aSt) => (some (a2, j32S) : Option (Int32 × aSt))) fun K32 =>
if r6 = (-9 : Int32) then (K32 S) else
if 0 < (S.1 a0 8) then (K32 S) else
if (S.1 a0 7) < (7 : Int32) then (rfd (S.2.2 a0 0) 7 fun k35 =>
grd (inb (S.1 a0 7) (SH k35).2) <|
nm (stI S k35 (S.1 a0 7).toNatClampNeg r6) fun S43 =>
rfd (S43.2.2 a0 1) 7 fun k45 =>
(F_X1_figure n S43 a1 (a2 + (1 : Int32)) (0 : Int32) (9 : Int32)).bind fun r59 =>
grd (inb (S43.1 a0 7) (SH k45).2) <|
nm (stI S43 k45 (S43.1 a0 7).toNatClampNeg r59) fun S62 =>
rfd (S62.2.2 a0 6) 4 fun k64 =>
rfd (S62.2.2 k64 0) 7 fun k67 =>
(F_X1_figure n S62 a1 (a2 + (2 : Int32)) (0 : Int32) (3 : Int32)).bind fun r80 =>
grd (inb (S62.1 a0 7) (SH k67).2) <|
nm (stI S62 k67 (S62.1 a0 7).toNatClampNeg r80) fun S83 =>
rfd (S83.2.2 a0 6) 4 fun k85 =>
rfd (S83.2.2 k85 1) 7 fun k88 =>
(F_X1_figure n S83 a1 (a2 + (3 : Int32)) (0 : Int32) (9 : Int32)).bind fun r102 =>
grd (inb (S83.1 a0 7) (SH k88).2) <|
nm (stI S83 k88 (S83.1 a0 7).toNatClampNeg r102) fun S105 =>
rfd (S105.2.2 a0 1) 7 fun k107 =>
grd (inb (S105.1 a0 7) (SH k107).2) <|
if (S105.1 k107 (S105.1 a0 7).toNatClampNeg) = (-9 : Int32) then (some ((a2 + (1 : Int32)), S105)) else
rfd (S105.2.2 a0 6) 4 fun k125 =>
rfd (S105.2.2 k125 0) 7 fun k128 =>
grd (inb (S105.1 a0 7) (SH k128).2) <|
if (S105.1 k128 (S105.1 a0 7).toNatClampNeg) = (-9 : Int32) then (some ((a2 + (2 : Int32)), S105)) else
rfd (S105.2.2 k125 1) 7 fun k149 =>
grd (inb (S105.1 a0 7) (SH k149).2) <|
if (S105.1 k149 (S105.1 a0 7).toNatClampNeg) = (-9 : Int32) then (some ((a2 + (3 : Int32)), S105)) else
nm (stI S105 a0 7 ((S105.1 a0 7) + (1 : Int32))) fun S173 =>
some ((-9 : Int32), S173)) else
K32 S
set_option maxHeartbeats 4000000 in
set_option maxRecDepth 100000 in
theorem C_X1_readCard (G : aG) (l : Launch) (n : Nat) (S : aSt) (a0 : Nat) (a1 : Nat) (a2 : Int32) (r : Int32) (Sr : aSt) (ha0 : isT a0 0 = true) (ha1 : isT a1 3 = true) (hf : F_X1_readCard n S a0 a1 a2 = some (r, Sr)) : Ctr G l yX1_readCard mX1_readCard (rmM 3) 97 97 S [.ref a0, .ref a1, .int a2] (some (.int r)) Sr := by
  refine Ctr.of (by decide) rfl rfl (Nat.le_of_ble_eq_true rfl) [(0, .ref a0), (1, .ref a1), (2, .int a2)] rfl ?_
  unfold F_X1_readCard at hf
  refine Go.aload_n 1 1 rfl dX1_readCard_0 rfl ?_
  obtain ⟨k1, qk1, hk1, hf⟩ := f_rfd hf
  refine Go.getR 4 rfl dX1_readCard_1 fl_X1_60 rfl (isT_lt ha1) (isT_sh ha1) qk1 ?_
  refine Go.iload_n 2 5 rfl dX1_readCard_4 rfl ?_
  obtain ⟨g5, hf⟩ := f_grd hf
  refine Go.iald 6 rfl dX1_readCard_5 (isT_lt hk1) (isT_sh hk1) g5 ?_
  obtain ⟨r6, er6, hf⟩ := f_bnd hf
  refine Go.cS 9 [.int (S.1 k1 a2.toNatClampNeg)] [] (C_X0_ofLetter G l n S (S.1 k1 a2.toNatClampNeg) r6  er6) rfl dX1_readCard_6 cx_X1_69 (by decide) (by decide) rfl (Nat.le_of_ble_eq_true rfl) ?_
  refine Go.istore_n 10 [(3, .int r6), (0, .ref a0), (1, .ref a1), (2, .int a2)] rfl dX1_readCard_9 (by decide) rfl ?_
  refine Go.iload_n 0 11 rfl dX1_readCard_10 rfl ?_
  refine Go.bipush (-9 : Int32) 13 rfl dX1_readCard_11 cb_m9 ?_
  obtain ⟨K32, eK32, hf⟩ := f_jn hf
  have J32 : ∀ (j32S : aSt), K32 j32S = some (r, Sr) → GoM G l 3 (TmR G (some (.int r)) 97 Sr 0 0) mX1_readCard 32 [(2, .int a2)] [] j32S := by
    intro j32S hf
    rw [eK32] at hf
    refine Go.iload_n 0 33 rfl dX1_readCard_32 rfl ?_
    exact Go.irS rfl dX1_readCard_33 hf
  clear eK32
  refine Go.icmp_eq 32 16 rfl dX1_readCard_13 rfl (fun hc => ?_) (fun hc => ?_)
  · replace hf := f_if hf hc
    exact Go.sub [3] [(2, .int a2)] rfl (J32 S hf)
  · replace hf := f_el hf hc
    refine Go.aload_n 1 17 rfl dX1_readCard_16 rfl ?_
    refine Go.getI 20 rfl dX1_readCard_17 fl_X1_41 rfl (isT_lt ha0) (isT_sh ha0) ?_
    refine Go.if_gt 32 23 rfl dX1_readCard_20 rfl (fun hc => ?_) (fun hc => ?_)
    · replace hf := f_if hf hc
      exact Go.sub [3] [(2, .int a2)] rfl (J32 S hf)
    · replace hf := f_el hf hc
      refine Go.aload_n 1 24 rfl dX1_readCard_23 rfl ?_
      refine Go.getI 27 rfl dX1_readCard_24 fl_X1_37 rfl (isT_lt ha0) (isT_sh ha0) ?_
      refine Go.bipush (7 : Int32) 29 rfl dX1_readCard_27 cb_7 ?_
      refine Go.icmp_lt 34 32 rfl dX1_readCard_29 rfl (fun hc => ?_) (fun hc => ?_)
      · replace hf := f_if hf hc
        refine Go.aload_n 1 35 rfl dX1_readCard_34 rfl ?_
        obtain ⟨k35, qk35, hk35, hf⟩ := f_rfd hf
        refine Go.getR 38 rfl dX1_readCard_35 fl_X1_9 rfl (isT_lt ha0) (isT_sh ha0) qk35 ?_
        refine Go.aload_n 1 39 rfl dX1_readCard_38 rfl ?_
        refine Go.getI 42 rfl dX1_readCard_39 fl_X1_37 rfl (isT_lt ha0) (isT_sh ha0) ?_
        refine Go.iload_n 0 43 rfl dX1_readCard_42 rfl ?_
        obtain ⟨g43, hf⟩ := f_grd hf
        obtain ⟨S43, eS43, hf⟩ := f_nm hf
        refine Go.iast 44 rfl dX1_readCard_43 (isT_lt hk35) (isT_sh hk35) g43 (Go.stt S43 eS43 ?_)
        refine Go.aload_n 1 45 rfl dX1_readCard_44 rfl ?_
        obtain ⟨k45, qk45, hk45, hf⟩ := f_rfd hf
        refine Go.getR 48 rfl dX1_readCard_45 fl_X1_15 rfl (isT_lt ha0) (isT_sh ha0) qk45 ?_
        refine Go.aload_n 1 49 rfl dX1_readCard_48 rfl ?_
        refine Go.getI 52 rfl dX1_readCard_49 fl_X1_37 rfl (isT_lt ha0) (isT_sh ha0) ?_
        refine Go.aload_n 2 53 rfl dX1_readCard_52 rfl ?_
        refine Go.iload_n 3 54 rfl dX1_readCard_53 rfl ?_
        refine Go.iconst (1 : Int32) 55 rfl dX1_readCard_54 ci_1 ?_
        refine Go.iadd 56 rfl dX1_readCard_55 ?_
        refine Go.iconst (0 : Int32) 57 rfl dX1_readCard_56 ci_0 ?_
        refine Go.bipush (9 : Int32) 59 rfl dX1_readCard_57 cb_9 ?_
        obtain ⟨r59, er59, hf⟩ := f_bnd hf
        refine Go.cS 62 [.ref a1, .int (a2 + (1 : Int32)), .int (0 : Int32), .int (9 : Int32)] [.int (S43.1 a0 7), .ref k45] (C_X1_figure G l n S43 a1 (a2 + (1 : Int32)) (0 : Int32) (9 : Int32) r59 ha1 er59) rfl dX1_readCard_59 cx_X1_75 (by decide) (by decide) rfl (Nat.le_of_ble_eq_true rfl) ?_
        obtain ⟨g62, hf⟩ := f_grd hf
        obtain ⟨S62, eS62, hf⟩ := f_nm hf
        refine Go.iast 63 rfl dX1_readCard_62 (isT_lt hk45) (isT_sh hk45) g62 (Go.stt S62 eS62 ?_)
        refine Go.aload_n 1 64 rfl dX1_readCard_63 rfl ?_
        obtain ⟨k64, qk64, hk64, hf⟩ := f_rfd hf
        refine Go.getR 67 rfl dX1_readCard_64 fl_X1_33 rfl (isT_lt ha0) (isT_sh ha0) qk64 ?_
        obtain ⟨k67, qk67, hk67, hf⟩ := f_rfd hf
        refine Go.getR 70 rfl dX1_readCard_67 fl_X1_79 rfl (isT_lt hk64) (isT_sh hk64) qk67 ?_
        refine Go.aload_n 1 71 rfl dX1_readCard_70 rfl ?_
        refine Go.getI 74 rfl dX1_readCard_71 fl_X1_37 rfl (isT_lt ha0) (isT_sh ha0) ?_
        refine Go.aload_n 2 75 rfl dX1_readCard_74 rfl ?_
        refine Go.iload_n 3 76 rfl dX1_readCard_75 rfl ?_
        refine Go.iconst (2 : Int32) 77 rfl dX1_readCard_76 ci_2 ?_
        refine Go.iadd 78 rfl dX1_readCard_77 ?_
        refine Go.iconst (0 : Int32) 79 rfl dX1_readCard_78 ci_0 ?_
        refine Go.iconst (3 : Int32) 80 rfl dX1_readCard_79 ci_3 ?_
        obtain ⟨r80, er80, hf⟩ := f_bnd hf
        refine Go.cS 83 [.ref a1, .int (a2 + (2 : Int32)), .int (0 : Int32), .int (3 : Int32)] [.int (S62.1 a0 7), .ref k67] (C_X1_figure G l n S62 a1 (a2 + (2 : Int32)) (0 : Int32) (3 : Int32) r80 ha1 er80) rfl dX1_readCard_80 cx_X1_75 (by decide) (by decide) rfl (Nat.le_of_ble_eq_true rfl) ?_
        obtain ⟨g83, hf⟩ := f_grd hf
        obtain ⟨S83, eS83, hf⟩ := f_nm hf
        refine Go.iast 84 rfl dX1_readCard_83 (isT_lt hk67) (isT_sh hk67) g83 (Go.stt S83 eS83 ?_)
        refine Go.aload_n 1 85 rfl dX1_readCard_84 rfl ?_
        obtain ⟨k85, qk85, hk85, hf⟩ := f_rfd hf
        refine Go.getR 88 rfl dX1_readCard_85 fl_X1_33 rfl (isT_lt ha0) (isT_sh ha0) qk85 ?_
        obtain ⟨k88, qk88, hk88, hf⟩ := f_rfd hf
        refine Go.getR 91 rfl dX1_readCard_88 fl_X1_82 rfl (isT_lt hk85) (isT_sh hk85) qk88 ?_
        refine Go.aload_n 1 92 rfl dX1_readCard_91 rfl ?_
        refine Go.getI 95 rfl dX1_readCard_92 fl_X1_37 rfl (isT_lt ha0) (isT_sh ha0) ?_
        refine Go.aload_n 2 96 rfl dX1_readCard_95 rfl ?_
        refine Go.iload_n 3 97 rfl dX1_readCard_96 rfl ?_
        refine Go.iconst (3 : Int32) 98 rfl dX1_readCard_97 ci_3 ?_
        refine Go.iadd 99 rfl dX1_readCard_98 ?_
        refine Go.iconst (0 : Int32) 100 rfl dX1_readCard_99 ci_0 ?_
        refine Go.bipush (9 : Int32) 102 rfl dX1_readCard_100 cb_9 ?_
        obtain ⟨r102, er102, hf⟩ := f_bnd hf
        refine Go.cS 105 [.ref a1, .int (a2 + (3 : Int32)), .int (0 : Int32), .int (9 : Int32)] [.int (S83.1 a0 7), .ref k88] (C_X1_figure G l n S83 a1 (a2 + (3 : Int32)) (0 : Int32) (9 : Int32) r102 ha1 er102) rfl dX1_readCard_102 cx_X1_75 (by decide) (by decide) rfl (Nat.le_of_ble_eq_true rfl) ?_
        obtain ⟨g105, hf⟩ := f_grd hf
        obtain ⟨S105, eS105, hf⟩ := f_nm hf
        refine Go.iast 106 rfl dX1_readCard_105 (isT_lt hk88) (isT_sh hk88) g105 (Go.stt S105 eS105 ?_)
        refine Go.aload_n 1 107 rfl dX1_readCard_106 rfl ?_
        obtain ⟨k107, qk107, hk107, hf⟩ := f_rfd hf
        refine Go.getR 110 rfl dX1_readCard_107 fl_X1_15 rfl (isT_lt ha0) (isT_sh ha0) qk107 ?_
        refine Go.aload_n 1 111 rfl dX1_readCard_110 rfl ?_
        refine Go.getI 114 rfl dX1_readCard_111 fl_X1_37 rfl (isT_lt ha0) (isT_sh ha0) ?_
        obtain ⟨g114, hf⟩ := f_grd hf
        refine Go.iald 115 rfl dX1_readCard_114 (isT_lt hk107) (isT_sh hk107) g114 ?_
        refine Go.bipush (-9 : Int32) 117 rfl dX1_readCard_115 cb_m9 ?_
        refine Go.icmp_ne 124 120 rfl dX1_readCard_117 rfl (fun hc => ?_) (fun hc => ?_)
        · replace hf := f_el hf hc
          refine Go.aload_n 1 125 rfl dX1_readCard_124 rfl ?_
          obtain ⟨k125, qk125, hk125, hf⟩ := f_rfd hf
          refine Go.getR 128 rfl dX1_readCard_125 fl_X1_33 rfl (isT_lt ha0) (isT_sh ha0) qk125 ?_
          obtain ⟨k128, qk128, hk128, hf⟩ := f_rfd hf
          refine Go.getR 131 rfl dX1_readCard_128 fl_X1_79 rfl (isT_lt hk125) (isT_sh hk125) qk128 ?_
          refine Go.aload_n 1 132 rfl dX1_readCard_131 rfl ?_
          refine Go.getI 135 rfl dX1_readCard_132 fl_X1_37 rfl (isT_lt ha0) (isT_sh ha0) ?_
          obtain ⟨g135, hf⟩ := f_grd hf
          refine Go.iald 136 rfl dX1_readCard_135 (isT_lt hk128) (isT_sh hk128) g135 ?_
          refine Go.bipush (-9 : Int32) 138 rfl dX1_readCard_136 cb_m9 ?_
          refine Go.icmp_ne 145 141 rfl dX1_readCard_138 rfl (fun hc => ?_) (fun hc => ?_)
          · replace hf := f_el hf hc
            refine Go.aload_n 1 146 rfl dX1_readCard_145 rfl ?_
            refine Go.getR 149 rfl dX1_readCard_146 fl_X1_33 rfl (isT_lt ha0) (isT_sh ha0) qk125 ?_
            obtain ⟨k149, qk149, hk149, hf⟩ := f_rfd hf
            refine Go.getR 152 rfl dX1_readCard_149 fl_X1_82 rfl (isT_lt hk125) (isT_sh hk125) qk149 ?_
            refine Go.aload_n 1 153 rfl dX1_readCard_152 rfl ?_
            refine Go.getI 156 rfl dX1_readCard_153 fl_X1_37 rfl (isT_lt ha0) (isT_sh ha0) ?_
            obtain ⟨g156, hf⟩ := f_grd hf
            refine Go.iald 157 rfl dX1_readCard_156 (isT_lt hk149) (isT_sh hk149) g156 ?_
            refine Go.bipush (-9 : Int32) 159 rfl dX1_readCard_157 cb_m9 ?_
            refine Go.icmp_ne 166 162 rfl dX1_readCard_159 rfl (fun hc => ?_) (fun hc => ?_)
            · replace hf := f_el hf hc
              refine Go.aload_n 1 167 rfl dX1_readCard_166 rfl ?_
              refine Go.dup 168 rfl dX1_readCard_167 rfl ?_
              refine Go.getI 171 rfl dX1_readCard_168 fl_X1_37 rfl (isT_lt ha0) (isT_sh ha0) ?_
              refine Go.iconst (1 : Int32) 172 rfl dX1_readCard_171 ci_1 ?_
              refine Go.iadd 173 rfl dX1_readCard_172 ?_
              obtain ⟨S173, eS173, hf⟩ := f_nm hf
              refine Go.putI 176 rfl dX1_readCard_173 fp_X1_37 rfl (isT_lt ha0) (isT_sh ha0) (fun h => by cases h) (Go.stt S173 eS173 ?_)
              refine Go.bipush (-9 : Int32) 178 rfl dX1_readCard_176 cb_m9 ?_
              exact Go.irS rfl dX1_readCard_178 hf
            · replace hf := f_if hf hc
              refine Go.iload_n 3 163 rfl dX1_readCard_162 rfl ?_
              refine Go.iconst (3 : Int32) 164 rfl dX1_readCard_163 ci_3 ?_
              refine Go.iadd 165 rfl dX1_readCard_164 ?_
              exact Go.irS rfl dX1_readCard_165 hf
          · replace hf := f_if hf hc
            refine Go.iload_n 3 142 rfl dX1_readCard_141 rfl ?_
            refine Go.iconst (2 : Int32) 143 rfl dX1_readCard_142 ci_2 ?_
            refine Go.iadd 144 rfl dX1_readCard_143 ?_
            exact Go.irS rfl dX1_readCard_144 hf
        · replace hf := f_if hf hc
          refine Go.iload_n 3 121 rfl dX1_readCard_120 rfl ?_
          refine Go.iconst (1 : Int32) 122 rfl dX1_readCard_121 ci_1 ?_
          refine Go.iadd 123 rfl dX1_readCard_122 ?_
          exact Go.irS rfl dX1_readCard_123 hf
      · replace hf := f_el hf hc
        exact Go.sub [3] [(2, .int a2)] rfl (J32 S hf)
theorem dX1_readQuestion_0 : decode cX1_readQuestion 0 = .ok (.aload_n 0, 1) := by decide +kernel
theorem dX1_readQuestion_1 : decode cX1_readQuestion 1 = .ok (.getfield 37, 3) := by decide +kernel
theorem dX1_readQuestion_4 : decode cX1_readQuestion 4 = .ok (.ifCond .eq 12, 3) := by decide +kernel
theorem dX1_readQuestion_7 : decode cX1_readQuestion 7 = .ok (.aload_n 0, 1) := by decide +kernel
theorem dX1_readQuestion_8 : decode cX1_readQuestion 8 = .ok (.getfield 41, 3) := by decide +kernel
theorem dX1_readQuestion_11 : decode cX1_readQuestion 11 = .ok (.bipush 7, 2) := by decide +kernel
theorem dX1_readQuestion_13 : decode cX1_readQuestion 13 = .ok (.if_icmp .lt 5, 3) := by decide +kernel
theorem dX1_readQuestion_16 : decode cX1_readQuestion 16 = .ok (.iload_n 2, 1) := by decide +kernel
theorem dX1_readQuestion_17 : decode cX1_readQuestion 17 = .ok (.ireturn, 1) := by decide +kernel
theorem dX1_readQuestion_18 : decode cX1_readQuestion 18 = .ok (.aload_n 0, 1) := by decide +kernel
theorem dX1_readQuestion_19 : decode cX1_readQuestion 19 = .ok (.getfield 18, 3) := by decide +kernel
theorem dX1_readQuestion_22 : decode cX1_readQuestion 22 = .ok (.aload_n 0, 1) := by decide +kernel
theorem dX1_readQuestion_23 : decode cX1_readQuestion 23 = .ok (.getfield 41, 3) := by decide +kernel
theorem dX1_readQuestion_26 : decode cX1_readQuestion 26 = .ok (.aload_n 1, 1) := by decide +kernel
theorem dX1_readQuestion_27 : decode cX1_readQuestion 27 = .ok (.iload_n 2, 1) := by decide +kernel
theorem dX1_readQuestion_28 : decode cX1_readQuestion 28 = .ok (.iconst 1, 1) := by decide +kernel
theorem dX1_readQuestion_29 : decode cX1_readQuestion 29 = .ok (.iadd, 1) := by decide +kernel
theorem dX1_readQuestion_30 : decode cX1_readQuestion 30 = .ok (.iconst 0, 1) := by decide +kernel
theorem dX1_readQuestion_31 : decode cX1_readQuestion 31 = .ok (.iconst 5, 1) := by decide +kernel
theorem dX1_readQuestion_32 : decode cX1_readQuestion 32 = .ok (.invokestatic 75, 3) := by decide +kernel
theorem dX1_readQuestion_35 : decode cX1_readQuestion 35 = .ok (.iastore, 1) := by decide +kernel
theorem dX1_readQuestion_36 : decode cX1_readQuestion 36 = .ok (.aload_n 0, 1) := by decide +kernel
theorem dX1_readQuestion_37 : decode cX1_readQuestion 37 = .ok (.getfield 21, 3) := by decide +kernel
theorem dX1_readQuestion_40 : decode cX1_readQuestion 40 = .ok (.aload_n 0, 1) := by decide +kernel
theorem dX1_readQuestion_41 : decode cX1_readQuestion 41 = .ok (.getfield 41, 3) := by decide +kernel
theorem dX1_readQuestion_44 : decode cX1_readQuestion 44 = .ok (.aload_n 1, 1) := by decide +kernel
theorem dX1_readQuestion_45 : decode cX1_readQuestion 45 = .ok (.iload_n 2, 1) := by decide +kernel
theorem dX1_readQuestion_46 : decode cX1_readQuestion 46 = .ok (.iconst 2, 1) := by decide +kernel
theorem dX1_readQuestion_47 : decode cX1_readQuestion 47 = .ok (.iadd, 1) := by decide +kernel
theorem dX1_readQuestion_48 : decode cX1_readQuestion 48 = .ok (.iconst 0, 1) := by decide +kernel
theorem dX1_readQuestion_49 : decode cX1_readQuestion 49 = .ok (.bipush 9, 2) := by decide +kernel
theorem dX1_readQuestion_51 : decode cX1_readQuestion 51 = .ok (.invokestatic 75, 3) := by decide +kernel
theorem dX1_readQuestion_54 : decode cX1_readQuestion 54 = .ok (.iastore, 1) := by decide +kernel
theorem dX1_readQuestion_55 : decode cX1_readQuestion 55 = .ok (.aload_n 0, 1) := by decide +kernel
theorem dX1_readQuestion_56 : decode cX1_readQuestion 56 = .ok (.getfield 24, 3) := by decide +kernel
theorem dX1_readQuestion_59 : decode cX1_readQuestion 59 = .ok (.aload_n 0, 1) := by decide +kernel
theorem dX1_readQuestion_60 : decode cX1_readQuestion 60 = .ok (.getfield 41, 3) := by decide +kernel
theorem dX1_readQuestion_63 : decode cX1_readQuestion 63 = .ok (.aload_n 1, 1) := by decide +kernel
theorem dX1_readQuestion_64 : decode cX1_readQuestion 64 = .ok (.iload_n 2, 1) := by decide +kernel
theorem dX1_readQuestion_65 : decode cX1_readQuestion 65 = .ok (.iconst 3, 1) := by decide +kernel
theorem dX1_readQuestion_66 : decode cX1_readQuestion 66 = .ok (.iadd, 1) := by decide +kernel
theorem dX1_readQuestion_67 : decode cX1_readQuestion 67 = .ok (.aload_n 0, 1) := by decide +kernel
theorem dX1_readQuestion_68 : decode cX1_readQuestion 68 = .ok (.getfield 21, 3) := by decide +kernel
theorem dX1_readQuestion_71 : decode cX1_readQuestion 71 = .ok (.aload_n 0, 1) := by decide +kernel
theorem dX1_readQuestion_72 : decode cX1_readQuestion 72 = .ok (.getfield 41, 3) := by decide +kernel
theorem dX1_readQuestion_75 : decode cX1_readQuestion 75 = .ok (.iaload, 1) := by decide +kernel
theorem dX1_readQuestion_76 : decode cX1_readQuestion 76 = .ok (.bipush 9, 2) := by decide +kernel
theorem dX1_readQuestion_78 : decode cX1_readQuestion 78 = .ok (.invokestatic 75, 3) := by decide +kernel
theorem dX1_readQuestion_81 : decode cX1_readQuestion 81 = .ok (.iastore, 1) := by decide +kernel
theorem dX1_readQuestion_82 : decode cX1_readQuestion 82 = .ok (.aload_n 0, 1) := by decide +kernel
theorem dX1_readQuestion_83 : decode cX1_readQuestion 83 = .ok (.getfield 27, 3) := by decide +kernel
theorem dX1_readQuestion_86 : decode cX1_readQuestion 86 = .ok (.aload_n 0, 1) := by decide +kernel
theorem dX1_readQuestion_87 : decode cX1_readQuestion 87 = .ok (.getfield 41, 3) := by decide +kernel
theorem dX1_readQuestion_90 : decode cX1_readQuestion 90 = .ok (.aload_n 1, 1) := by decide +kernel
theorem dX1_readQuestion_91 : decode cX1_readQuestion 91 = .ok (.iload_n 2, 1) := by decide +kernel
theorem dX1_readQuestion_92 : decode cX1_readQuestion 92 = .ok (.iconst 4, 1) := by decide +kernel
theorem dX1_readQuestion_93 : decode cX1_readQuestion 93 = .ok (.iadd, 1) := by decide +kernel
theorem dX1_readQuestion_94 : decode cX1_readQuestion 94 = .ok (.iconst 1, 1) := by decide +kernel
theorem dX1_readQuestion_95 : decode cX1_readQuestion 95 = .ok (.bipush 9, 2) := by decide +kernel
theorem dX1_readQuestion_97 : decode cX1_readQuestion 97 = .ok (.invokestatic 75, 3) := by decide +kernel
theorem dX1_readQuestion_100 : decode cX1_readQuestion 100 = .ok (.iastore, 1) := by decide +kernel
theorem dX1_readQuestion_101 : decode cX1_readQuestion 101 = .ok (.aload_n 0, 1) := by decide +kernel
theorem dX1_readQuestion_102 : decode cX1_readQuestion 102 = .ok (.getfield 18, 3) := by decide +kernel
theorem dX1_readQuestion_105 : decode cX1_readQuestion 105 = .ok (.aload_n 0, 1) := by decide +kernel
theorem dX1_readQuestion_106 : decode cX1_readQuestion 106 = .ok (.getfield 41, 3) := by decide +kernel
theorem dX1_readQuestion_109 : decode cX1_readQuestion 109 = .ok (.iaload, 1) := by decide +kernel
theorem dX1_readQuestion_110 : decode cX1_readQuestion 110 = .ok (.bipush (-9), 2) := by decide +kernel
theorem dX1_readQuestion_112 : decode cX1_readQuestion 112 = .ok (.if_icmp .ne 7, 3) := by decide +kernel
theorem dX1_readQuestion_115 : decode cX1_readQuestion 115 = .ok (.iload_n 2, 1) := by decide +kernel
theorem dX1_readQuestion_116 : decode cX1_readQuestion 116 = .ok (.iconst 1, 1) := by decide +kernel
theorem dX1_readQuestion_117 : decode cX1_readQuestion 117 = .ok (.iadd, 1) := by decide +kernel
theorem dX1_readQuestion_118 : decode cX1_readQuestion 118 = .ok (.ireturn, 1) := by decide +kernel
theorem dX1_readQuestion_119 : decode cX1_readQuestion 119 = .ok (.aload_n 0, 1) := by decide +kernel
theorem dX1_readQuestion_120 : decode cX1_readQuestion 120 = .ok (.getfield 21, 3) := by decide +kernel
theorem dX1_readQuestion_123 : decode cX1_readQuestion 123 = .ok (.aload_n 0, 1) := by decide +kernel
theorem dX1_readQuestion_124 : decode cX1_readQuestion 124 = .ok (.getfield 41, 3) := by decide +kernel
theorem dX1_readQuestion_127 : decode cX1_readQuestion 127 = .ok (.iaload, 1) := by decide +kernel
theorem dX1_readQuestion_128 : decode cX1_readQuestion 128 = .ok (.bipush (-9), 2) := by decide +kernel
theorem dX1_readQuestion_130 : decode cX1_readQuestion 130 = .ok (.if_icmp .ne 7, 3) := by decide +kernel
theorem dX1_readQuestion_133 : decode cX1_readQuestion 133 = .ok (.iload_n 2, 1) := by decide +kernel
theorem dX1_readQuestion_134 : decode cX1_readQuestion 134 = .ok (.iconst 2, 1) := by decide +kernel
theorem dX1_readQuestion_135 : decode cX1_readQuestion 135 = .ok (.iadd, 1) := by decide +kernel
theorem dX1_readQuestion_136 : decode cX1_readQuestion 136 = .ok (.ireturn, 1) := by decide +kernel
theorem dX1_readQuestion_137 : decode cX1_readQuestion 137 = .ok (.aload_n 0, 1) := by decide +kernel
theorem dX1_readQuestion_138 : decode cX1_readQuestion 138 = .ok (.getfield 24, 3) := by decide +kernel
theorem dX1_readQuestion_141 : decode cX1_readQuestion 141 = .ok (.aload_n 0, 1) := by decide +kernel
theorem dX1_readQuestion_142 : decode cX1_readQuestion 142 = .ok (.getfield 41, 3) := by decide +kernel
theorem dX1_readQuestion_145 : decode cX1_readQuestion 145 = .ok (.iaload, 1) := by decide +kernel
theorem dX1_readQuestion_146 : decode cX1_readQuestion 146 = .ok (.bipush (-9), 2) := by decide +kernel
theorem dX1_readQuestion_148 : decode cX1_readQuestion 148 = .ok (.if_icmp .ne 7, 3) := by decide +kernel
theorem dX1_readQuestion_151 : decode cX1_readQuestion 151 = .ok (.iload_n 2, 1) := by decide +kernel
theorem dX1_readQuestion_152 : decode cX1_readQuestion 152 = .ok (.iconst 3, 1) := by decide +kernel
theorem dX1_readQuestion_153 : decode cX1_readQuestion 153 = .ok (.iadd, 1) := by decide +kernel
theorem dX1_readQuestion_154 : decode cX1_readQuestion 154 = .ok (.ireturn, 1) := by decide +kernel
theorem dX1_readQuestion_155 : decode cX1_readQuestion 155 = .ok (.aload_n 0, 1) := by decide +kernel
theorem dX1_readQuestion_156 : decode cX1_readQuestion 156 = .ok (.getfield 27, 3) := by decide +kernel
theorem dX1_readQuestion_159 : decode cX1_readQuestion 159 = .ok (.aload_n 0, 1) := by decide +kernel
theorem dX1_readQuestion_160 : decode cX1_readQuestion 160 = .ok (.getfield 41, 3) := by decide +kernel
theorem dX1_readQuestion_163 : decode cX1_readQuestion 163 = .ok (.iaload, 1) := by decide +kernel
theorem dX1_readQuestion_164 : decode cX1_readQuestion 164 = .ok (.bipush (-9), 2) := by decide +kernel
theorem dX1_readQuestion_166 : decode cX1_readQuestion 166 = .ok (.if_icmp .ne 7, 3) := by decide +kernel
theorem dX1_readQuestion_169 : decode cX1_readQuestion 169 = .ok (.iload_n 2, 1) := by decide +kernel
theorem dX1_readQuestion_170 : decode cX1_readQuestion 170 = .ok (.iconst 4, 1) := by decide +kernel
theorem dX1_readQuestion_171 : decode cX1_readQuestion 171 = .ok (.iadd, 1) := by decide +kernel
theorem dX1_readQuestion_172 : decode cX1_readQuestion 172 = .ok (.ireturn, 1) := by decide +kernel
theorem dX1_readQuestion_173 : decode cX1_readQuestion 173 = .ok (.aload_n 0, 1) := by decide +kernel
theorem dX1_readQuestion_174 : decode cX1_readQuestion 174 = .ok (.dup, 1) := by decide +kernel
theorem dX1_readQuestion_175 : decode cX1_readQuestion 175 = .ok (.getfield 41, 3) := by decide +kernel
theorem dX1_readQuestion_178 : decode cX1_readQuestion 178 = .ok (.iconst 1, 1) := by decide +kernel
theorem dX1_readQuestion_179 : decode cX1_readQuestion 179 = .ok (.iadd, 1) := by decide +kernel
theorem dX1_readQuestion_180 : decode cX1_readQuestion 180 = .ok (.putfield 41, 3) := by decide +kernel
theorem dX1_readQuestion_183 : decode cX1_readQuestion 183 = .ok (.bipush (-9), 2) := by decide +kernel
theorem dX1_readQuestion_185 : decode cX1_readQuestion 185 = .ok (.ireturn, 1) := by decide +kernel
def F_X1_readQuestion (n : Nat) (S : aSt) (a0 : Nat) (a1 : Nat) (a2 : Int32) : Option (Int32 × aSt) :=
jn (fun (j16S : aSt) => (some (a2, j16S) : Option (Int32 × aSt))) fun K16 =>
if (S.1 a0 7) = 0 then (K16 S) else
if (S.1 a0 8) < (7 : Int32) then (rfd (S.2.2 a0 2) 7 fun k19 =>
(F_X1_figure n S a1 (a2 + (1 : Int32)) (0 : Int32) (5 : Int32)).bind fun r32 =>
grd (inb (S.1 a0 8) (SH k19).2) <|
nm (stI S k19 (S.1 a0 8).toNatClampNeg r32) fun S35 =>
rfd (S35.2.2 a0 3) 7 fun k37 =>
(F_X1_figure n S35 a1 (a2 + (2 : Int32)) (0 : Int32) (9 : Int32)).bind fun r51 =>
grd (inb (S35.1 a0 8) (SH k37).2) <|
nm (stI S35 k37 (S35.1 a0 8).toNatClampNeg r51) fun S54 =>
rfd (S54.2.2 a0 4) 7 fun k56 =>
rfd (S54.2.2 a0 3) 7 fun k68 =>
grd (inb (S54.1 a0 8) (SH k68).2) <|
(F_X1_figure n S54 a1 (a2 + (3 : Int32)) (S54.1 k68 (S54.1 a0 8).toNatClampNeg) (9 : Int32)).bind fun r78 =>
grd (inb (S54.1 a0 8) (SH k56).2) <|
nm (stI S54 k56 (S54.1 a0 8).toNatClampNeg r78) fun S81 =>
rfd (S81.2.2 a0 5) 7 fun k83 =>
(F_X1_figure n S81 a1 (a2 + (4 : Int32)) (1 : Int32) (9 : Int32)).bind fun r97 =>
grd (inb (S81.1 a0 8) (SH k83).2) <|
nm (stI S81 k83 (S81.1 a0 8).toNatClampNeg r97) fun S100 =>
rfd (S100.2.2 a0 2) 7 fun k102 =>
grd (inb (S100.1 a0 8) (SH k102).2) <|
if (S100.1 k102 (S100.1 a0 8).toNatClampNeg) = (-9 : Int32) then (some ((a2 + (1 : Int32)), S100)) else
rfd (S100.2.2 a0 3) 7 fun k120 =>
grd (inb (S100.1 a0 8) (SH k120).2) <|
if (S100.1 k120 (S100.1 a0 8).toNatClampNeg) = (-9 : Int32) then (some ((a2 + (2 : Int32)), S100)) else
rfd (S100.2.2 a0 4) 7 fun k138 =>
grd (inb (S100.1 a0 8) (SH k138).2) <|
if (S100.1 k138 (S100.1 a0 8).toNatClampNeg) = (-9 : Int32) then (some ((a2 + (3 : Int32)), S100)) else
rfd (S100.2.2 a0 5) 7 fun k156 =>
grd (inb (S100.1 a0 8) (SH k156).2) <|
if (S100.1 k156 (S100.1 a0 8).toNatClampNeg) = (-9 : Int32) then (some ((a2 + (4 : Int32)), S100)) else
nm (stI S100 a0 8 ((S100.1 a0 8) + (1 : Int32))) fun S180 =>
some ((-9 : Int32), S180)) else
K16 S
set_option maxHeartbeats 4000000 in
set_option maxRecDepth 100000 in
theorem C_X1_readQuestion (G : aG) (l : Launch) (n : Nat) (S : aSt) (a0 : Nat) (a1 : Nat) (a2 : Int32) (r : Int32) (Sr : aSt) (ha0 : isT a0 0 = true) (ha1 : isT a1 3 = true) (hf : F_X1_readQuestion n S a0 a1 a2 = some (r, Sr)) : Ctr G l yX1_readQuestion mX1_readQuestion (rmM 3) 97 97 S [.ref a0, .ref a1, .int a2] (some (.int r)) Sr := by
  refine Ctr.of (by decide) rfl rfl (Nat.le_of_ble_eq_true rfl) [(0, .ref a0), (1, .ref a1), (2, .int a2)] rfl ?_
  unfold F_X1_readQuestion at hf
  refine Go.aload_n 0 1 rfl dX1_readQuestion_0 rfl ?_
  refine Go.getI 4 rfl dX1_readQuestion_1 fl_X1_37 rfl (isT_lt ha0) (isT_sh ha0) ?_
  obtain ⟨K16, eK16, hf⟩ := f_jn hf
  have J16 : ∀ (j16S : aSt), K16 j16S = some (r, Sr) → GoM G l 3 (TmR G (some (.int r)) 97 Sr 0 0) mX1_readQuestion 16 [(2, .int a2)] [] j16S := by
    intro j16S hf
    rw [eK16] at hf
    refine Go.iload_n 0 17 rfl dX1_readQuestion_16 rfl ?_
    exact Go.irS rfl dX1_readQuestion_17 hf
  clear eK16
  refine Go.if_eq 16 7 rfl dX1_readQuestion_4 rfl (fun hc => ?_) (fun hc => ?_)
  · replace hf := f_if hf hc
    exact Go.sub [2] [(2, .int a2)] rfl (J16 S hf)
  · replace hf := f_el hf hc
    refine Go.aload_n 0 8 rfl dX1_readQuestion_7 rfl ?_
    refine Go.getI 11 rfl dX1_readQuestion_8 fl_X1_41 rfl (isT_lt ha0) (isT_sh ha0) ?_
    refine Go.bipush (7 : Int32) 13 rfl dX1_readQuestion_11 cb_7 ?_
    refine Go.icmp_lt 18 16 rfl dX1_readQuestion_13 rfl (fun hc => ?_) (fun hc => ?_)
    · replace hf := f_if hf hc
      refine Go.aload_n 0 19 rfl dX1_readQuestion_18 rfl ?_
      obtain ⟨k19, qk19, hk19, hf⟩ := f_rfd hf
      refine Go.getR 22 rfl dX1_readQuestion_19 fl_X1_18 rfl (isT_lt ha0) (isT_sh ha0) qk19 ?_
      refine Go.aload_n 0 23 rfl dX1_readQuestion_22 rfl ?_
      refine Go.getI 26 rfl dX1_readQuestion_23 fl_X1_41 rfl (isT_lt ha0) (isT_sh ha0) ?_
      refine Go.aload_n 1 27 rfl dX1_readQuestion_26 rfl ?_
      refine Go.iload_n 2 28 rfl dX1_readQuestion_27 rfl ?_
      refine Go.iconst (1 : Int32) 29 rfl dX1_readQuestion_28 ci_1 ?_
      refine Go.iadd 30 rfl dX1_readQuestion_29 ?_
      refine Go.iconst (0 : Int32) 31 rfl dX1_readQuestion_30 ci_0 ?_
      refine Go.iconst (5 : Int32) 32 rfl dX1_readQuestion_31 ci_5 ?_
      obtain ⟨r32, er32, hf⟩ := f_bnd hf
      refine Go.cS 35 [.ref a1, .int (a2 + (1 : Int32)), .int (0 : Int32), .int (5 : Int32)] [.int (S.1 a0 8), .ref k19] (C_X1_figure G l n S a1 (a2 + (1 : Int32)) (0 : Int32) (5 : Int32) r32 ha1 er32) rfl dX1_readQuestion_32 cx_X1_75 (by decide) (by decide) rfl (Nat.le_of_ble_eq_true rfl) ?_
      obtain ⟨g35, hf⟩ := f_grd hf
      obtain ⟨S35, eS35, hf⟩ := f_nm hf
      refine Go.iast 36 rfl dX1_readQuestion_35 (isT_lt hk19) (isT_sh hk19) g35 (Go.stt S35 eS35 ?_)
      refine Go.aload_n 0 37 rfl dX1_readQuestion_36 rfl ?_
      obtain ⟨k37, qk37, hk37, hf⟩ := f_rfd hf
      refine Go.getR 40 rfl dX1_readQuestion_37 fl_X1_21 rfl (isT_lt ha0) (isT_sh ha0) qk37 ?_
      refine Go.aload_n 0 41 rfl dX1_readQuestion_40 rfl ?_
      refine Go.getI 44 rfl dX1_readQuestion_41 fl_X1_41 rfl (isT_lt ha0) (isT_sh ha0) ?_
      refine Go.aload_n 1 45 rfl dX1_readQuestion_44 rfl ?_
      refine Go.iload_n 2 46 rfl dX1_readQuestion_45 rfl ?_
      refine Go.iconst (2 : Int32) 47 rfl dX1_readQuestion_46 ci_2 ?_
      refine Go.iadd 48 rfl dX1_readQuestion_47 ?_
      refine Go.iconst (0 : Int32) 49 rfl dX1_readQuestion_48 ci_0 ?_
      refine Go.bipush (9 : Int32) 51 rfl dX1_readQuestion_49 cb_9 ?_
      obtain ⟨r51, er51, hf⟩ := f_bnd hf
      refine Go.cS 54 [.ref a1, .int (a2 + (2 : Int32)), .int (0 : Int32), .int (9 : Int32)] [.int (S35.1 a0 8), .ref k37] (C_X1_figure G l n S35 a1 (a2 + (2 : Int32)) (0 : Int32) (9 : Int32) r51 ha1 er51) rfl dX1_readQuestion_51 cx_X1_75 (by decide) (by decide) rfl (Nat.le_of_ble_eq_true rfl) ?_
      obtain ⟨g54, hf⟩ := f_grd hf
      obtain ⟨S54, eS54, hf⟩ := f_nm hf
      refine Go.iast 55 rfl dX1_readQuestion_54 (isT_lt hk37) (isT_sh hk37) g54 (Go.stt S54 eS54 ?_)
      refine Go.aload_n 0 56 rfl dX1_readQuestion_55 rfl ?_
      obtain ⟨k56, qk56, hk56, hf⟩ := f_rfd hf
      refine Go.getR 59 rfl dX1_readQuestion_56 fl_X1_24 rfl (isT_lt ha0) (isT_sh ha0) qk56 ?_
      refine Go.aload_n 0 60 rfl dX1_readQuestion_59 rfl ?_
      refine Go.getI 63 rfl dX1_readQuestion_60 fl_X1_41 rfl (isT_lt ha0) (isT_sh ha0) ?_
      refine Go.aload_n 1 64 rfl dX1_readQuestion_63 rfl ?_
      refine Go.iload_n 2 65 rfl dX1_readQuestion_64 rfl ?_
      refine Go.iconst (3 : Int32) 66 rfl dX1_readQuestion_65 ci_3 ?_
      refine Go.iadd 67 rfl dX1_readQuestion_66 ?_
      refine Go.aload_n 0 68 rfl dX1_readQuestion_67 rfl ?_
      obtain ⟨k68, qk68, hk68, hf⟩ := f_rfd hf
      refine Go.getR 71 rfl dX1_readQuestion_68 fl_X1_21 rfl (isT_lt ha0) (isT_sh ha0) qk68 ?_
      refine Go.aload_n 0 72 rfl dX1_readQuestion_71 rfl ?_
      refine Go.getI 75 rfl dX1_readQuestion_72 fl_X1_41 rfl (isT_lt ha0) (isT_sh ha0) ?_
      obtain ⟨g75, hf⟩ := f_grd hf
      refine Go.iald 76 rfl dX1_readQuestion_75 (isT_lt hk68) (isT_sh hk68) g75 ?_
      refine Go.bipush (9 : Int32) 78 rfl dX1_readQuestion_76 cb_9 ?_
      obtain ⟨r78, er78, hf⟩ := f_bnd hf
      refine Go.cS 81 [.ref a1, .int (a2 + (3 : Int32)), .int (S54.1 k68 (S54.1 a0 8).toNatClampNeg), .int (9 : Int32)] [.int (S54.1 a0 8), .ref k56] (C_X1_figure G l n S54 a1 (a2 + (3 : Int32)) (S54.1 k68 (S54.1 a0 8).toNatClampNeg) (9 : Int32) r78 ha1 er78) rfl dX1_readQuestion_78 cx_X1_75 (by decide) (by decide) rfl (Nat.le_of_ble_eq_true rfl) ?_
      obtain ⟨g81, hf⟩ := f_grd hf
      obtain ⟨S81, eS81, hf⟩ := f_nm hf
      refine Go.iast 82 rfl dX1_readQuestion_81 (isT_lt hk56) (isT_sh hk56) g81 (Go.stt S81 eS81 ?_)
      refine Go.aload_n 0 83 rfl dX1_readQuestion_82 rfl ?_
      obtain ⟨k83, qk83, hk83, hf⟩ := f_rfd hf
      refine Go.getR 86 rfl dX1_readQuestion_83 fl_X1_27 rfl (isT_lt ha0) (isT_sh ha0) qk83 ?_
      refine Go.aload_n 0 87 rfl dX1_readQuestion_86 rfl ?_
      refine Go.getI 90 rfl dX1_readQuestion_87 fl_X1_41 rfl (isT_lt ha0) (isT_sh ha0) ?_
      refine Go.aload_n 1 91 rfl dX1_readQuestion_90 rfl ?_
      refine Go.iload_n 2 92 rfl dX1_readQuestion_91 rfl ?_
      refine Go.iconst (4 : Int32) 93 rfl dX1_readQuestion_92 ci_4 ?_
      refine Go.iadd 94 rfl dX1_readQuestion_93 ?_
      refine Go.iconst (1 : Int32) 95 rfl dX1_readQuestion_94 ci_1 ?_
      refine Go.bipush (9 : Int32) 97 rfl dX1_readQuestion_95 cb_9 ?_
      obtain ⟨r97, er97, hf⟩ := f_bnd hf
      refine Go.cS 100 [.ref a1, .int (a2 + (4 : Int32)), .int (1 : Int32), .int (9 : Int32)] [.int (S81.1 a0 8), .ref k83] (C_X1_figure G l n S81 a1 (a2 + (4 : Int32)) (1 : Int32) (9 : Int32) r97 ha1 er97) rfl dX1_readQuestion_97 cx_X1_75 (by decide) (by decide) rfl (Nat.le_of_ble_eq_true rfl) ?_
      obtain ⟨g100, hf⟩ := f_grd hf
      obtain ⟨S100, eS100, hf⟩ := f_nm hf
      refine Go.iast 101 rfl dX1_readQuestion_100 (isT_lt hk83) (isT_sh hk83) g100 (Go.stt S100 eS100 ?_)
      refine Go.aload_n 0 102 rfl dX1_readQuestion_101 rfl ?_
      obtain ⟨k102, qk102, hk102, hf⟩ := f_rfd hf
      refine Go.getR 105 rfl dX1_readQuestion_102 fl_X1_18 rfl (isT_lt ha0) (isT_sh ha0) qk102 ?_
      refine Go.aload_n 0 106 rfl dX1_readQuestion_105 rfl ?_
      refine Go.getI 109 rfl dX1_readQuestion_106 fl_X1_41 rfl (isT_lt ha0) (isT_sh ha0) ?_
      obtain ⟨g109, hf⟩ := f_grd hf
      refine Go.iald 110 rfl dX1_readQuestion_109 (isT_lt hk102) (isT_sh hk102) g109 ?_
      refine Go.bipush (-9 : Int32) 112 rfl dX1_readQuestion_110 cb_m9 ?_
      refine Go.icmp_ne 119 115 rfl dX1_readQuestion_112 rfl (fun hc => ?_) (fun hc => ?_)
      · replace hf := f_el hf hc
        refine Go.aload_n 0 120 rfl dX1_readQuestion_119 rfl ?_
        obtain ⟨k120, qk120, hk120, hf⟩ := f_rfd hf
        refine Go.getR 123 rfl dX1_readQuestion_120 fl_X1_21 rfl (isT_lt ha0) (isT_sh ha0) qk120 ?_
        refine Go.aload_n 0 124 rfl dX1_readQuestion_123 rfl ?_
        refine Go.getI 127 rfl dX1_readQuestion_124 fl_X1_41 rfl (isT_lt ha0) (isT_sh ha0) ?_
        obtain ⟨g127, hf⟩ := f_grd hf
        refine Go.iald 128 rfl dX1_readQuestion_127 (isT_lt hk120) (isT_sh hk120) g127 ?_
        refine Go.bipush (-9 : Int32) 130 rfl dX1_readQuestion_128 cb_m9 ?_
        refine Go.icmp_ne 137 133 rfl dX1_readQuestion_130 rfl (fun hc => ?_) (fun hc => ?_)
        · replace hf := f_el hf hc
          refine Go.aload_n 0 138 rfl dX1_readQuestion_137 rfl ?_
          obtain ⟨k138, qk138, hk138, hf⟩ := f_rfd hf
          refine Go.getR 141 rfl dX1_readQuestion_138 fl_X1_24 rfl (isT_lt ha0) (isT_sh ha0) qk138 ?_
          refine Go.aload_n 0 142 rfl dX1_readQuestion_141 rfl ?_
          refine Go.getI 145 rfl dX1_readQuestion_142 fl_X1_41 rfl (isT_lt ha0) (isT_sh ha0) ?_
          obtain ⟨g145, hf⟩ := f_grd hf
          refine Go.iald 146 rfl dX1_readQuestion_145 (isT_lt hk138) (isT_sh hk138) g145 ?_
          refine Go.bipush (-9 : Int32) 148 rfl dX1_readQuestion_146 cb_m9 ?_
          refine Go.icmp_ne 155 151 rfl dX1_readQuestion_148 rfl (fun hc => ?_) (fun hc => ?_)
          · replace hf := f_el hf hc
            refine Go.aload_n 0 156 rfl dX1_readQuestion_155 rfl ?_
            obtain ⟨k156, qk156, hk156, hf⟩ := f_rfd hf
            refine Go.getR 159 rfl dX1_readQuestion_156 fl_X1_27 rfl (isT_lt ha0) (isT_sh ha0) qk156 ?_
            refine Go.aload_n 0 160 rfl dX1_readQuestion_159 rfl ?_
            refine Go.getI 163 rfl dX1_readQuestion_160 fl_X1_41 rfl (isT_lt ha0) (isT_sh ha0) ?_
            obtain ⟨g163, hf⟩ := f_grd hf
            refine Go.iald 164 rfl dX1_readQuestion_163 (isT_lt hk156) (isT_sh hk156) g163 ?_
            refine Go.bipush (-9 : Int32) 166 rfl dX1_readQuestion_164 cb_m9 ?_
            refine Go.icmp_ne 173 169 rfl dX1_readQuestion_166 rfl (fun hc => ?_) (fun hc => ?_)
            · replace hf := f_el hf hc
              refine Go.aload_n 0 174 rfl dX1_readQuestion_173 rfl ?_
              refine Go.dup 175 rfl dX1_readQuestion_174 rfl ?_
              refine Go.getI 178 rfl dX1_readQuestion_175 fl_X1_41 rfl (isT_lt ha0) (isT_sh ha0) ?_
              refine Go.iconst (1 : Int32) 179 rfl dX1_readQuestion_178 ci_1 ?_
              refine Go.iadd 180 rfl dX1_readQuestion_179 ?_
              obtain ⟨S180, eS180, hf⟩ := f_nm hf
              refine Go.putI 183 rfl dX1_readQuestion_180 fp_X1_41 rfl (isT_lt ha0) (isT_sh ha0) (fun h => by cases h) (Go.stt S180 eS180 ?_)
              refine Go.bipush (-9 : Int32) 185 rfl dX1_readQuestion_183 cb_m9 ?_
              exact Go.irS rfl dX1_readQuestion_185 hf
            · replace hf := f_if hf hc
              refine Go.iload_n 2 170 rfl dX1_readQuestion_169 rfl ?_
              refine Go.iconst (4 : Int32) 171 rfl dX1_readQuestion_170 ci_4 ?_
              refine Go.iadd 172 rfl dX1_readQuestion_171 ?_
              exact Go.irS rfl dX1_readQuestion_172 hf
          · replace hf := f_if hf hc
            refine Go.iload_n 2 152 rfl dX1_readQuestion_151 rfl ?_
            refine Go.iconst (3 : Int32) 153 rfl dX1_readQuestion_152 ci_3 ?_
            refine Go.iadd 154 rfl dX1_readQuestion_153 ?_
            exact Go.irS rfl dX1_readQuestion_154 hf
        · replace hf := f_if hf hc
          refine Go.iload_n 2 134 rfl dX1_readQuestion_133 rfl ?_
          refine Go.iconst (2 : Int32) 135 rfl dX1_readQuestion_134 ci_2 ?_
          refine Go.iadd 136 rfl dX1_readQuestion_135 ?_
          exact Go.irS rfl dX1_readQuestion_136 hf
      · replace hf := f_if hf hc
        refine Go.iload_n 2 116 rfl dX1_readQuestion_115 rfl ?_
        refine Go.iconst (1 : Int32) 117 rfl dX1_readQuestion_116 ci_1 ?_
        refine Go.iadd 118 rfl dX1_readQuestion_117 ?_
        exact Go.irS rfl dX1_readQuestion_118 hf
    · replace hf := f_el hf hc
      exact Go.sub [2] [(2, .int a2)] rfl (J16 S hf)
theorem dX1_readFrom_0 : decode cX1_readFrom 0 = .ok (.aload_n 0, 1) := by decide +kernel
theorem dX1_readFrom_1 : decode cX1_readFrom 1 = .ok (.iconst 0, 1) := by decide +kernel
theorem dX1_readFrom_2 : decode cX1_readFrom 2 = .ok (.putfield 37, 3) := by decide +kernel
theorem dX1_readFrom_5 : decode cX1_readFrom 5 = .ok (.aload_n 0, 1) := by decide +kernel
theorem dX1_readFrom_6 : decode cX1_readFrom 6 = .ok (.iconst 0, 1) := by decide +kernel
theorem dX1_readFrom_7 : decode cX1_readFrom 7 = .ok (.putfield 41, 3) := by decide +kernel
theorem dX1_readFrom_10 : decode cX1_readFrom 10 = .ok (.aload_n 0, 1) := by decide +kernel
theorem dX1_readFrom_11 : decode cX1_readFrom 11 = .ok (.getfield 33, 3) := by decide +kernel
theorem dX1_readFrom_14 : decode cX1_readFrom 14 = .ok (.invokevirtual 44, 3) := by decide +kernel
theorem dX1_readFrom_17 : decode cX1_readFrom 17 = .ok (.iconst 0, 1) := by decide +kernel
theorem dX1_readFrom_18 : decode cX1_readFrom 18 = .ok (.istore_n 2, 1) := by decide +kernel
theorem dX1_readFrom_19 : decode cX1_readFrom 19 = .ok (.iconst 0, 1) := by decide +kernel
theorem dX1_readFrom_20 : decode cX1_readFrom 20 = .ok (.istore_n 3, 1) := by decide +kernel
theorem dX1_readFrom_21 : decode cX1_readFrom 21 = .ok (.iload_n 3, 1) := by decide +kernel
theorem dX1_readFrom_22 : decode cX1_readFrom 22 = .ok (.aload_n 1, 1) := by decide +kernel
theorem dX1_readFrom_23 : decode cX1_readFrom 23 = .ok (.getfield 47, 3) := by decide +kernel
theorem dX1_readFrom_26 : decode cX1_readFrom 26 = .ok (.if_icmp .gt 103, 3) := by decide +kernel
theorem dX1_readFrom_29 : decode cX1_readFrom 29 = .ok (.aload_n 1, 1) := by decide +kernel
theorem dX1_readFrom_30 : decode cX1_readFrom 30 = .ok (.iload_n 2, 1) := by decide +kernel
theorem dX1_readFrom_31 : decode cX1_readFrom 31 = .ok (.invokestatic 52, 3) := by decide +kernel
theorem dX1_readFrom_34 : decode cX1_readFrom 34 = .ok (.istore_n 2, 1) := by decide +kernel
theorem dX1_readFrom_35 : decode cX1_readFrom 35 = .ok (.aload_n 1, 1) := by decide +kernel
theorem dX1_readFrom_36 : decode cX1_readFrom 36 = .ok (.iload_n 2, 1) := by decide +kernel
theorem dX1_readFrom_37 : decode cX1_readFrom 37 = .ok (.invokevirtual 56, 3) := by decide +kernel
theorem dX1_readFrom_40 : decode cX1_readFrom 40 = .ok (.ifCond .ne 20, 3) := by decide +kernel
theorem dX1_readFrom_43 : decode cX1_readFrom 43 = .ok (.aload_n 0, 1) := by decide +kernel
theorem dX1_readFrom_44 : decode cX1_readFrom 44 = .ok (.getfield 37, 3) := by decide +kernel
theorem dX1_readFrom_47 : decode cX1_readFrom 47 = .ok (.ifCond .ne 10, 3) := by decide +kernel
theorem dX1_readFrom_50 : decode cX1_readFrom 50 = .ok (.aload_n 1, 1) := by decide +kernel
theorem dX1_readFrom_51 : decode cX1_readFrom 51 = .ok (.getfield 47, 3) := by decide +kernel
theorem dX1_readFrom_54 : decode cX1_readFrom 54 = .ok (.goto 5, 3) := by decide +kernel
theorem dX1_readFrom_57 : decode cX1_readFrom 57 = .ok (.bipush (-9), 2) := by decide +kernel
theorem dX1_readFrom_59 : decode cX1_readFrom 59 = .ok (.ireturn, 1) := by decide +kernel
theorem dX1_readFrom_60 : decode cX1_readFrom 60 = .ok (.aload_n 1, 1) := by decide +kernel
theorem dX1_readFrom_61 : decode cX1_readFrom 61 = .ok (.getfield 60, 3) := by decide +kernel
theorem dX1_readFrom_64 : decode cX1_readFrom 64 = .ok (.iload_n 2, 1) := by decide +kernel
theorem dX1_readFrom_65 : decode cX1_readFrom 65 = .ok (.iaload, 1) := by decide +kernel
theorem dX1_readFrom_66 : decode cX1_readFrom 66 = .ok (.bipush 113, 2) := by decide +kernel
theorem dX1_readFrom_68 : decode cX1_readFrom 68 = .ok (.if_icmp .ne 7, 3) := by decide +kernel
theorem dX1_readFrom_71 : decode cX1_readFrom 71 = .ok (.iconst 1, 1) := by decide +kernel
theorem dX1_readFrom_72 : decode cX1_readFrom 72 = .ok (.goto 4, 3) := by decide +kernel
theorem dX1_readFrom_75 : decode cX1_readFrom 75 = .ok (.iconst 0, 1) := by decide +kernel
theorem dX1_readFrom_76 : decode cX1_readFrom 76 = .ok (.istore 4, 2) := by decide +kernel
theorem dX1_readFrom_78 : decode cX1_readFrom 78 = .ok (.iload 4, 2) := by decide +kernel
theorem dX1_readFrom_80 : decode cX1_readFrom 80 = .ok (.ifCond .eq 12, 3) := by decide +kernel
theorem dX1_readFrom_83 : decode cX1_readFrom 83 = .ok (.aload_n 0, 1) := by decide +kernel
theorem dX1_readFrom_84 : decode cX1_readFrom 84 = .ok (.aload_n 1, 1) := by decide +kernel
theorem dX1_readFrom_85 : decode cX1_readFrom 85 = .ok (.iload_n 2, 1) := by decide +kernel
theorem dX1_readFrom_86 : decode cX1_readFrom 86 = .ok (.invokevirtual 63, 3) := by decide +kernel
theorem dX1_readFrom_89 : decode cX1_readFrom 89 = .ok (.goto 9, 3) := by decide +kernel
theorem dX1_readFrom_92 : decode cX1_readFrom 92 = .ok (.aload_n 0, 1) := by decide +kernel
theorem dX1_readFrom_93 : decode cX1_readFrom 93 = .ok (.aload_n 1, 1) := by decide +kernel
theorem dX1_readFrom_94 : decode cX1_readFrom 94 = .ok (.iload_n 2, 1) := by decide +kernel
theorem dX1_readFrom_95 : decode cX1_readFrom 95 = .ok (.invokevirtual 66, 3) := by decide +kernel
theorem dX1_readFrom_98 : decode cX1_readFrom 98 = .ok (.istore 5, 2) := by decide +kernel
theorem dX1_readFrom_100 : decode cX1_readFrom 100 = .ok (.iload 5, 2) := by decide +kernel
theorem dX1_readFrom_102 : decode cX1_readFrom 102 = .ok (.bipush (-9), 2) := by decide +kernel
theorem dX1_readFrom_104 : decode cX1_readFrom 104 = .ok (.if_icmp .eq 6, 3) := by decide +kernel
theorem dX1_readFrom_107 : decode cX1_readFrom 107 = .ok (.iload 5, 2) := by decide +kernel
theorem dX1_readFrom_109 : decode cX1_readFrom 109 = .ok (.ireturn, 1) := by decide +kernel
theorem dX1_readFrom_110 : decode cX1_readFrom 110 = .ok (.iload_n 2, 1) := by decide +kernel
theorem dX1_readFrom_111 : decode cX1_readFrom 111 = .ok (.iload 4, 2) := by decide +kernel
theorem dX1_readFrom_113 : decode cX1_readFrom 113 = .ok (.ifCond .eq 7, 3) := by decide +kernel
theorem dX1_readFrom_116 : decode cX1_readFrom 116 = .ok (.iconst 5, 1) := by decide +kernel
theorem dX1_readFrom_117 : decode cX1_readFrom 117 = .ok (.goto 4, 3) := by decide +kernel
theorem dX1_readFrom_120 : decode cX1_readFrom 120 = .ok (.iconst 4, 1) := by decide +kernel
theorem dX1_readFrom_121 : decode cX1_readFrom 121 = .ok (.iadd, 1) := by decide +kernel
theorem dX1_readFrom_122 : decode cX1_readFrom 122 = .ok (.istore_n 2, 1) := by decide +kernel
theorem dX1_readFrom_123 : decode cX1_readFrom 123 = .ok (.iinc 3 1, 3) := by decide +kernel
theorem dX1_readFrom_126 : decode cX1_readFrom 126 = .ok (.goto (-105), 3) := by decide +kernel
theorem dX1_readFrom_129 : decode cX1_readFrom 129 = .ok (.aload_n 1, 1) := by decide +kernel
theorem dX1_readFrom_130 : decode cX1_readFrom 130 = .ok (.getfield 47, 3) := by decide +kernel
theorem dX1_readFrom_133 : decode cX1_readFrom 133 = .ok (.ireturn, 1) := by decide +kernel
def F_X1_readFrom_L21 (n : Nat) (a0 : Nat) (a1 : Nat) (K129 : aSt → Option (Int32 × aSt)) : Nat → Int32 → Int32 → aSt → Option (Int32 × aSt)
  | 0, _, _, _ => none
  | fu + 1, l21_2, l21_3, l21S =>
    if (l21S.1 a1 1) < l21_3 then (K129 l21S) else
    (F_X1_pastBlanks n l21S a1 l21_2).bind fun r31 =>
    (F_X4_reaches n l21S a1 r31).bind fun r37 =>
    if r37 = 0 then (if (l21S.1 a0 7) = 0 then (some ((l21S.1 a1 1), l21S)) else
    some ((-9 : Int32), l21S)) else
    rfd (l21S.2.2 a1 0) 7 fun k61 =>
    grd (inb r31 (SH k61).2) <|
    jn (fun (j76s0 : Int32) => (jn (fun (j98s0 : Int32) (j98S : aSt) => (if j98s0 = (-9 : Int32) then (jn (fun (j121s1 : Int32) => (nm (r31 + j121s1) fun v122 =>
    F_X1_readFrom_L21 n a0 a1 K129 fu v122 (l21_3 + (1 : Int32)) j98S : Option (Int32 × aSt))) fun K121 =>
    if j76s0 = 0 then (K121 (4 : Int32)) else
    K121 (5 : Int32)) else
    some (j98s0, j98S) : Option (Int32 × aSt))) fun K98 =>
    if j76s0 = 0 then (bn2 (F_X1_readCard n l21S a0 a1 r31) fun r95 S95 =>
    K98 r95 S95) else
    bn2 (F_X1_readQuestion n l21S a0 a1 r31) fun r86 S86 =>
    K98 r86 S86 : Option (Int32 × aSt))) fun K76 =>
    if (l21S.1 k61 r31.toNatClampNeg) = (113 : Int32) then (K76 (1 : Int32)) else
    K76 (0 : Int32)
def F_X1_readFrom (n : Nat) (S : aSt) (a0 : Nat) (a1 : Nat) : Option (Int32 × aSt) :=
nm (stI S a0 7 (0 : Int32)) fun S2 =>
nm (stI S2 a0 8 (0 : Int32)) fun S7 =>
rfd (S7.2.2 a0 6) 4 fun k11 =>
(F_X5_begin n S7 k11).bind fun S14 =>
jn (fun (x129S : aSt) => (some ((x129S.1 a1 1), x129S) : Option (Int32 × aSt))) fun K129 =>
F_X1_readFrom_L21 n a0 a1 K129 n (0 : Int32) (0 : Int32) S14
set_option maxHeartbeats 4000000 in
set_option maxRecDepth 100000 in
theorem C_X1_readFrom (G : aG) (l : Launch) (n : Nat) (S : aSt) (a0 : Nat) (a1 : Nat) (r : Int32) (Sr : aSt) (ha0 : isT a0 0 = true) (ha1 : isT a1 3 = true) (hf : F_X1_readFrom n S a0 a1 = some (r, Sr)) : Ctr G l yX1_readFrom mX1_readFrom (rmM 4) 97 97 S [.ref a0, .ref a1] (some (.int r)) Sr := by
  refine Ctr.of (by decide) rfl rfl (Nat.le_of_ble_eq_true rfl) [(0, .ref a0), (1, .ref a1)] rfl ?_
  unfold F_X1_readFrom at hf
  refine Go.aload_n 0 1 rfl dX1_readFrom_0 rfl ?_
  refine Go.iconst (0 : Int32) 2 rfl dX1_readFrom_1 ci_0 ?_
  obtain ⟨S2, eS2, hf⟩ := f_nm hf
  refine Go.putI 5 rfl dX1_readFrom_2 fp_X1_37 rfl (isT_lt ha0) (isT_sh ha0) (fun h => by cases h) (Go.stt S2 eS2 ?_)
  refine Go.aload_n 0 6 rfl dX1_readFrom_5 rfl ?_
  refine Go.iconst (0 : Int32) 7 rfl dX1_readFrom_6 ci_0 ?_
  obtain ⟨S7, eS7, hf⟩ := f_nm hf
  refine Go.putI 10 rfl dX1_readFrom_7 fp_X1_41 rfl (isT_lt ha0) (isT_sh ha0) (fun h => by cases h) (Go.stt S7 eS7 ?_)
  refine Go.aload_n 0 11 rfl dX1_readFrom_10 rfl ?_
  obtain ⟨k11, qk11, hk11, hf⟩ := f_rfd hf
  refine Go.getR 14 rfl dX1_readFrom_11 fl_X1_33 rfl (isT_lt ha0) (isT_sh ha0) qk11 ?_
  obtain ⟨S14, eS14, hf⟩ := f_bnd hf
  refine Go.cVv 17 [] [] (C_X5_begin G l n S7 k11 S14 hk11 eS14) rfl dX1_readFrom_14 cv_X1_44 hk11 (by decide) (by decide) rfl (Nat.le_of_ble_eq_true rfl) ?_
  refine Go.iconst (0 : Int32) 18 rfl dX1_readFrom_17 ci_0 ?_
  refine Go.istore_n 19 [(2, .int (0 : Int32)), (0, .ref a0), (1, .ref a1)] rfl dX1_readFrom_18 (by decide) rfl ?_
  refine Go.iconst (0 : Int32) 20 rfl dX1_readFrom_19 ci_0 ?_
  refine Go.istore_n 21 [(3, .int (0 : Int32)), (2, .int (0 : Int32)), (0, .ref a0), (1, .ref a1)] rfl dX1_readFrom_20 (by decide) rfl ?_
  obtain ⟨K129, eK129, hf⟩ := f_jn hf
  have J129 : ∀ (x129S : aSt), K129 x129S = some (r, Sr) → GoM G l 4 (TmR G (some (.int r)) 97 Sr 0 0) mX1_readFrom 129 [(1, .ref a1)] [] x129S := by
    intro x129S hf
    rw [eK129] at hf
    refine Go.aload_n 0 130 rfl dX1_readFrom_129 rfl ?_
    refine Go.getI 133 rfl dX1_readFrom_130 fl_X1_47 rfl (isT_lt ha1) (isT_sh ha1) ?_
    exact Go.irS rfl dX1_readFrom_133 hf
  clear eK129
  have L21 : ∀ (fu : Nat) (l21_2 : Int32) (l21_3 : Int32) (l21S : aSt), F_X1_readFrom_L21 n a0 a1 K129 fu l21_2 l21_3 l21S = some (r, Sr) → GoM G l 4 (TmR G (some (.int r)) 97 Sr 0 0) mX1_readFrom 21 [(0, .ref a0), (1, .ref a1), (2, .int l21_2), (3, .int l21_3)] [] l21S := by
    intro fu
    induction fu with
    | zero => intro l21_2 l21_3 l21S hf; rw [F_X1_readFrom_L21] at hf; cases hf
    | succ fu ih =>
      intro l21_2 l21_3 l21S hf
      rw [F_X1_readFrom_L21] at hf
      refine Go.iload_n 3 22 rfl dX1_readFrom_21 rfl ?_
      refine Go.aload_n 1 23 rfl dX1_readFrom_22 rfl ?_
      refine Go.getI 26 rfl dX1_readFrom_23 fl_X1_47 rfl (isT_lt ha1) (isT_sh ha1) ?_
      refine Go.icmp_gt 129 29 rfl dX1_readFrom_26 rfl (fun hc => ?_) (fun hc => ?_)
      · replace hf := f_if hf hc
        exact Go.sub [1] [(1, .ref a1)] rfl (J129 l21S hf)
      · replace hf := f_el hf hc
        refine Go.aload_n 1 30 rfl dX1_readFrom_29 rfl ?_
        refine Go.iload_n 2 31 rfl dX1_readFrom_30 rfl ?_
        obtain ⟨r31, er31, hf⟩ := f_bnd hf
        refine Go.cS 34 [.ref a1, .int l21_2] [] (C_X1_pastBlanks G l n l21S a1 l21_2 r31 ha1 er31) rfl dX1_readFrom_31 cx_X1_52 (by decide) (by decide) rfl (Nat.le_of_ble_eq_true rfl) ?_
        refine Go.istore_n 35 [(2, .int r31), (0, .ref a0), (1, .ref a1), (3, .int l21_3)] rfl dX1_readFrom_34 (by decide) rfl ?_
        refine Go.aload_n 2 36 rfl dX1_readFrom_35 rfl ?_
        refine Go.iload_n 0 37 rfl dX1_readFrom_36 rfl ?_
        obtain ⟨r37, er37, hf⟩ := f_bnd hf
        refine Go.cV 40 [.int r31] [] (C_X4_reaches G l n l21S a1 r31 r37 ha1 er37) rfl dX1_readFrom_37 cv_X1_56 ha1 (by decide) (by decide) rfl (Nat.le_of_ble_eq_true rfl) ?_
        refine Go.if_ne 60 43 rfl dX1_readFrom_40 rfl (fun hc => ?_) (fun hc => ?_)
        · replace hf := f_el hf hc
          refine Go.aload_n 2 61 rfl dX1_readFrom_60 rfl ?_
          obtain ⟨k61, qk61, hk61, hf⟩ := f_rfd hf
          refine Go.getR 64 rfl dX1_readFrom_61 fl_X1_60 rfl (isT_lt ha1) (isT_sh ha1) qk61 ?_
          refine Go.iload_n 0 65 rfl dX1_readFrom_64 rfl ?_
          obtain ⟨g65, hf⟩ := f_grd hf
          refine Go.iald 66 rfl dX1_readFrom_65 (isT_lt hk61) (isT_sh hk61) g65 ?_
          refine Go.bipush (113 : Int32) 68 rfl dX1_readFrom_66 cb_113 ?_
          obtain ⟨K76, eK76, hf⟩ := f_jn hf
          have J76 : ∀ (j76s0 : Int32), K76 j76s0 = some (r, Sr) → GoM G l 4 (TmR G (some (.int r)) 97 Sr 0 0) mX1_readFrom 76 [(0, .ref a0), (1, .ref a1), (2, .int r31), (3, .int l21_3)] [.int j76s0] l21S := by
            intro j76s0 hf
            rw [eK76] at hf
            refine Go.istore 78 [(4, .int j76s0), (0, .ref a0), (1, .ref a1), (2, .int r31), (3, .int l21_3)] rfl dX1_readFrom_76 (by decide) rfl ?_
            refine Go.iload 0 80 rfl dX1_readFrom_78 rfl ?_
            obtain ⟨K98, eK98, hf⟩ := f_jn hf
            have J98 : ∀ (j98s0 : Int32) (j98S : aSt), K98 j98s0 j98S = some (r, Sr) → GoM G l 4 (TmR G (some (.int r)) 97 Sr 0 0) mX1_readFrom 98 [(0, .ref a0), (1, .ref a1), (2, .int r31), (3, .int l21_3), (4, .int j76s0)] [.int j98s0] j98S := by
              intro j98s0 j98S hf
              rw [eK98] at hf
              refine Go.istore 100 [(5, .int j98s0), (0, .ref a0), (1, .ref a1), (2, .int r31), (3, .int l21_3), (4, .int j76s0)] rfl dX1_readFrom_98 (by decide) rfl ?_
              refine Go.iload 0 102 rfl dX1_readFrom_100 rfl ?_
              refine Go.bipush (-9 : Int32) 104 rfl dX1_readFrom_102 cb_m9 ?_
              refine Go.icmp_eq 110 107 rfl dX1_readFrom_104 rfl (fun hc => ?_) (fun hc => ?_)
              · replace hf := f_if hf hc
                refine Go.iload_n 3 111 rfl dX1_readFrom_110 rfl ?_
                refine Go.iload 5 113 rfl dX1_readFrom_111 rfl ?_
                obtain ⟨K121, eK121, hf⟩ := f_jn hf
                have J121 : ∀ (j121s1 : Int32), K121 j121s1 = some (r, Sr) → GoM G l 4 (TmR G (some (.int r)) 97 Sr 0 0) mX1_readFrom 121 [(0, .ref a0), (1, .ref a1), (3, .int l21_3)] [.int j121s1, .int r31] j98S := by
                  intro j121s1 hf
                  rw [eK121] at hf
                  refine Go.iadd 122 rfl dX1_readFrom_121 ?_
                  obtain ⟨v122, ev122, hf⟩ := f_nm hf
                  refine Go.topi v122 ev122 ?_
                  refine Go.istore_n 123 [(2, .int v122), (0, .ref a0), (1, .ref a1), (3, .int l21_3)] rfl dX1_readFrom_122 (by decide) rfl ?_
                  refine Go.inc 3 126 (1 : Int32) [(3, .int (l21_3 + (1 : Int32))), (2, .int v122), (0, .ref a0), (1, .ref a1)] rfl dX1_readFrom_123 rfl ci_1 (by decide) rfl ?_
                  refine Go.goto 21 dX1_readFrom_126 rfl ?_
                  exact Go.sub [2, 3, 1, 0] [(0, .ref a0), (1, .ref a1), (2, .int v122), (3, .int (l21_3 + (1 : Int32)))] rfl (ih v122 (l21_3 + (1 : Int32)) j98S hf)
                clear eK121
                refine Go.if_eq 120 116 rfl dX1_readFrom_113 rfl (fun hc => ?_) (fun hc => ?_)
                · replace hf := f_if hf hc
                  refine Go.iconst (4 : Int32) 121 rfl dX1_readFrom_120 ci_4 ?_
                  exact Go.sub [1, 2, 4] [(0, .ref a0), (1, .ref a1), (3, .int l21_3)] rfl (J121 (4 : Int32) hf)
                · replace hf := f_el hf hc
                  refine Go.iconst (5 : Int32) 117 rfl dX1_readFrom_116 ci_5 ?_
                  refine Go.goto 121 dX1_readFrom_117 rfl ?_
                  exact Go.sub [1, 2, 4] [(0, .ref a0), (1, .ref a1), (3, .int l21_3)] rfl (J121 (5 : Int32) hf)
              · replace hf := f_el hf hc
                refine Go.iload 0 109 rfl dX1_readFrom_107 rfl ?_
                exact Go.irS rfl dX1_readFrom_109 hf
            clear eK98
            refine Go.if_eq 92 83 rfl dX1_readFrom_80 rfl (fun hc => ?_) (fun hc => ?_)
            · replace hf := f_if hf hc
              refine Go.aload_n 1 93 rfl dX1_readFrom_92 rfl ?_
              refine Go.aload_n 2 94 rfl dX1_readFrom_93 rfl ?_
              refine Go.iload_n 3 95 rfl dX1_readFrom_94 rfl ?_
              obtain ⟨r95, S95, er95, hf⟩ := f_bn2 hf
              refine Go.cV 98 [.ref a1, .int r31] [] (C_X1_readCard G l n l21S a0 a1 r31 r95 S95 ha0 ha1 er95) rfl dX1_readFrom_95 cv_X1_66 ha0 (by decide) (by decide) rfl (Nat.le_of_ble_eq_true rfl) ?_
              exact Go.sub [1, 2, 3, 4, 0] [(0, .ref a0), (1, .ref a1), (2, .int r31), (3, .int l21_3), (4, .int j76s0)] rfl (J98 r95 S95 hf)
            · replace hf := f_el hf hc
              refine Go.aload_n 1 84 rfl dX1_readFrom_83 rfl ?_
              refine Go.aload_n 2 85 rfl dX1_readFrom_84 rfl ?_
              refine Go.iload_n 3 86 rfl dX1_readFrom_85 rfl ?_
              obtain ⟨r86, S86, er86, hf⟩ := f_bn2 hf
              refine Go.cV 89 [.ref a1, .int r31] [] (C_X1_readQuestion G l n l21S a0 a1 r31 r86 S86 ha0 ha1 er86) rfl dX1_readFrom_86 cv_X1_63 ha0 (by decide) (by decide) rfl (Nat.le_of_ble_eq_true rfl) ?_
              refine Go.goto 98 dX1_readFrom_89 rfl ?_
              exact Go.sub [1, 2, 3, 4, 0] [(0, .ref a0), (1, .ref a1), (2, .int r31), (3, .int l21_3), (4, .int j76s0)] rfl (J98 r86 S86 hf)
          clear eK76
          refine Go.icmp_ne 75 71 rfl dX1_readFrom_68 rfl (fun hc => ?_) (fun hc => ?_)
          · replace hf := f_el hf hc
            refine Go.iconst (0 : Int32) 76 rfl dX1_readFrom_75 ci_0 ?_
            exact Go.sub [1, 2, 0, 3] [(0, .ref a0), (1, .ref a1), (2, .int r31), (3, .int l21_3)] rfl (J76 (0 : Int32) hf)
          · replace hf := f_if hf hc
            refine Go.iconst (1 : Int32) 72 rfl dX1_readFrom_71 ci_1 ?_
            refine Go.goto 76 dX1_readFrom_72 rfl ?_
            exact Go.sub [1, 2, 0, 3] [(0, .ref a0), (1, .ref a1), (2, .int r31), (3, .int l21_3)] rfl (J76 (1 : Int32) hf)
        · replace hf := f_if hf hc
          refine Go.aload_n 1 44 rfl dX1_readFrom_43 rfl ?_
          refine Go.getI 47 rfl dX1_readFrom_44 fl_X1_37 rfl (isT_lt ha0) (isT_sh ha0) ?_
          refine Go.if_ne 57 50 rfl dX1_readFrom_47 rfl (fun hc => ?_) (fun hc => ?_)
          · replace hf := f_el hf hc
            refine Go.bipush (-9 : Int32) 59 rfl dX1_readFrom_57 cb_m9 ?_
            exact Go.irS rfl dX1_readFrom_59 hf
          · replace hf := f_if hf hc
            refine Go.aload_n 2 51 rfl dX1_readFrom_50 rfl ?_
            refine Go.getI 54 rfl dX1_readFrom_51 fl_X1_47 rfl (isT_lt ha1) (isT_sh ha1) ?_
            refine Go.goto 59 dX1_readFrom_54 rfl ?_
            exact Go.irS rfl dX1_readFrom_59 hf
  exact Go.sub [2, 3, 1, 0] [(0, .ref a0), (1, .ref a1), (2, .int (0 : Int32)), (3, .int (0 : Int32))] rfl (L21 n (0 : Int32) (0 : Int32) S14 hf)
theorem dX1_isCard_0 : decode cX1_isCard 0 = .ok (.iload_n 1, 1) := by decide +kernel
theorem dX1_isCard_1 : decode cX1_isCard 1 = .ok (.ifCond .lt 15, 3) := by decide +kernel
theorem dX1_isCard_4 : decode cX1_isCard 4 = .ok (.iload_n 1, 1) := by decide +kernel
theorem dX1_isCard_5 : decode cX1_isCard 5 = .ok (.aload_n 0, 1) := by decide +kernel
theorem dX1_isCard_6 : decode cX1_isCard 6 = .ok (.getfield 37, 3) := by decide +kernel
theorem dX1_isCard_9 : decode cX1_isCard 9 = .ok (.if_icmp .ge 7, 3) := by decide +kernel
theorem dX1_isCard_12 : decode cX1_isCard 12 = .ok (.iconst 1, 1) := by decide +kernel
theorem dX1_isCard_13 : decode cX1_isCard 13 = .ok (.goto 4, 3) := by decide +kernel
theorem dX1_isCard_16 : decode cX1_isCard 16 = .ok (.iconst 0, 1) := by decide +kernel
theorem dX1_isCard_17 : decode cX1_isCard 17 = .ok (.ireturn, 1) := by decide +kernel
def F_X1_isCard (n : Nat) (S : aSt) (a0 : Nat) (a1 : Int32) : Option Int32 :=
if a1 < 0 then (some (0 : Int32)) else
if (S.1 a0 7) ≤ a1 then (some (0 : Int32)) else
some (1 : Int32)
set_option maxHeartbeats 4000000 in
set_option maxRecDepth 100000 in
theorem C_X1_isCard (G : aG) (l : Launch) (n : Nat) (S : aSt) (a0 : Nat) (a1 : Int32) (r : Int32) (ha0 : isT a0 0 = true) (hf : F_X1_isCard n S a0 a1 = some r) : Ctr G l yX1_isCard mX1_isCard (rmM 1) 97 97 S [.ref a0, .int a1] (some (.int r)) S := by
  refine Ctr.of (by decide) rfl rfl (Nat.le_of_ble_eq_true rfl) [(0, .ref a0), (1, .int a1)] rfl ?_
  unfold F_X1_isCard at hf
  refine Go.iload_n 1 1 rfl dX1_isCard_0 rfl ?_
  refine Go.if_lt 16 4 rfl dX1_isCard_1 rfl (fun hc => ?_) (fun hc => ?_)
  · replace hf := f_if hf hc
    refine Go.iconst (0 : Int32) 17 rfl dX1_isCard_16 ci_0 ?_
    exact Go.zr rfl (Or.inl rfl) dX1_isCard_17 hf
  · replace hf := f_el hf hc
    refine Go.iload_n 1 5 rfl dX1_isCard_4 rfl ?_
    refine Go.aload_n 0 6 rfl dX1_isCard_5 rfl ?_
    refine Go.getI 9 rfl dX1_isCard_6 fl_X1_37 rfl (isT_lt ha0) (isT_sh ha0) ?_
    refine Go.icmp_ge 16 12 rfl dX1_isCard_9 rfl (fun hc => ?_) (fun hc => ?_)
    · replace hf := f_if hf hc
      refine Go.iconst (0 : Int32) 17 rfl dX1_isCard_16 ci_0 ?_
      exact Go.zr rfl (Or.inl rfl) dX1_isCard_17 hf
    · replace hf := f_el hf hc
      refine Go.iconst (1 : Int32) 13 rfl dX1_isCard_12 ci_1 ?_
      refine Go.goto 17 dX1_isCard_13 rfl ?_
      exact Go.zr rfl (Or.inr rfl) dX1_isCard_17 hf
theorem dX1_isQuestion_0 : decode cX1_isQuestion 0 = .ok (.iload_n 1, 1) := by decide +kernel
theorem dX1_isQuestion_1 : decode cX1_isQuestion 1 = .ok (.ifCond .lt 15, 3) := by decide +kernel
theorem dX1_isQuestion_4 : decode cX1_isQuestion 4 = .ok (.iload_n 1, 1) := by decide +kernel
theorem dX1_isQuestion_5 : decode cX1_isQuestion 5 = .ok (.aload_n 0, 1) := by decide +kernel
theorem dX1_isQuestion_6 : decode cX1_isQuestion 6 = .ok (.getfield 41, 3) := by decide +kernel
theorem dX1_isQuestion_9 : decode cX1_isQuestion 9 = .ok (.if_icmp .ge 7, 3) := by decide +kernel
theorem dX1_isQuestion_12 : decode cX1_isQuestion 12 = .ok (.iconst 1, 1) := by decide +kernel
theorem dX1_isQuestion_13 : decode cX1_isQuestion 13 = .ok (.goto 4, 3) := by decide +kernel
theorem dX1_isQuestion_16 : decode cX1_isQuestion 16 = .ok (.iconst 0, 1) := by decide +kernel
theorem dX1_isQuestion_17 : decode cX1_isQuestion 17 = .ok (.ireturn, 1) := by decide +kernel
def F_X1_isQuestion (n : Nat) (S : aSt) (a0 : Nat) (a1 : Int32) : Option Int32 :=
if a1 < 0 then (some (0 : Int32)) else
if (S.1 a0 8) ≤ a1 then (some (0 : Int32)) else
some (1 : Int32)
set_option maxHeartbeats 4000000 in
set_option maxRecDepth 100000 in
theorem C_X1_isQuestion (G : aG) (l : Launch) (n : Nat) (S : aSt) (a0 : Nat) (a1 : Int32) (r : Int32) (ha0 : isT a0 0 = true) (hf : F_X1_isQuestion n S a0 a1 = some r) : Ctr G l yX1_isQuestion mX1_isQuestion (rmM 1) 97 97 S [.ref a0, .int a1] (some (.int r)) S := by
  refine Ctr.of (by decide) rfl rfl (Nat.le_of_ble_eq_true rfl) [(0, .ref a0), (1, .int a1)] rfl ?_
  unfold F_X1_isQuestion at hf
  refine Go.iload_n 1 1 rfl dX1_isQuestion_0 rfl ?_
  refine Go.if_lt 16 4 rfl dX1_isQuestion_1 rfl (fun hc => ?_) (fun hc => ?_)
  · replace hf := f_if hf hc
    refine Go.iconst (0 : Int32) 17 rfl dX1_isQuestion_16 ci_0 ?_
    exact Go.zr rfl (Or.inl rfl) dX1_isQuestion_17 hf
  · replace hf := f_el hf hc
    refine Go.iload_n 1 5 rfl dX1_isQuestion_4 rfl ?_
    refine Go.aload_n 0 6 rfl dX1_isQuestion_5 rfl ?_
    refine Go.getI 9 rfl dX1_isQuestion_6 fl_X1_41 rfl (isT_lt ha0) (isT_sh ha0) ?_
    refine Go.icmp_ge 16 12 rfl dX1_isQuestion_9 rfl (fun hc => ?_) (fun hc => ?_)
    · replace hf := f_if hf hc
      refine Go.iconst (0 : Int32) 17 rfl dX1_isQuestion_16 ci_0 ?_
      exact Go.zr rfl (Or.inl rfl) dX1_isQuestion_17 hf
    · replace hf := f_el hf hc
      refine Go.iconst (1 : Int32) 13 rfl dX1_isQuestion_12 ci_1 ?_
      refine Go.goto 17 dX1_isQuestion_13 rfl ?_
      exact Go.zr rfl (Or.inr rfl) dX1_isQuestion_17 hf
theorem dX1_allCards_0 : decode cX1_allCards 0 = .ok (.iconst 1, 1) := by decide +kernel
theorem dX1_allCards_1 : decode cX1_allCards 1 = .ok (.aload_n 0, 1) := by decide +kernel
theorem dX1_allCards_2 : decode cX1_allCards 2 = .ok (.getfield 37, 3) := by decide +kernel
theorem dX1_allCards_5 : decode cX1_allCards 5 = .ok (.ishl, 1) := by decide +kernel
theorem dX1_allCards_6 : decode cX1_allCards 6 = .ok (.iconst 1, 1) := by decide +kernel
theorem dX1_allCards_7 : decode cX1_allCards 7 = .ok (.isub, 1) := by decide +kernel
theorem dX1_allCards_8 : decode cX1_allCards 8 = .ok (.ireturn, 1) := by decide +kernel
def F_X1_allCards (n : Nat) (S : aSt) (a0 : Nat) : Option Int32 :=
some (((1 : Int32) <<< ((S.1 a0 7) &&& 31)) - (1 : Int32))
set_option maxHeartbeats 4000000 in
set_option maxRecDepth 100000 in
theorem C_X1_allCards (G : aG) (l : Launch) (n : Nat) (S : aSt) (a0 : Nat) (r : Int32) (ha0 : isT a0 0 = true) (hf : F_X1_allCards n S a0 = some r) : Ctr G l yX1_allCards mX1_allCards (rmM 1) 97 97 S [.ref a0] (some (.int r)) S := by
  refine Ctr.of (by decide) rfl rfl (Nat.le_of_ble_eq_true rfl) [(0, .ref a0)] rfl ?_
  unfold F_X1_allCards at hf
  refine Go.iconst (1 : Int32) 1 rfl dX1_allCards_0 ci_1 ?_
  refine Go.aload_n 0 2 rfl dX1_allCards_1 rfl ?_
  refine Go.getI 5 rfl dX1_allCards_2 fl_X1_37 rfl (isT_lt ha0) (isT_sh ha0) ?_
  refine Go.ishl 6 rfl dX1_allCards_5 ?_
  refine Go.iconst (1 : Int32) 7 rfl dX1_allCards_6 ci_1 ?_
  refine Go.isub 8 rfl dX1_allCards_7 ?_
  exact Go.ir rfl dX1_allCards_8 hf
theorem dX1_isFreeCard_0 : decode cX1_isFreeCard 0 = .ok (.aload_n 0, 1) := by decide +kernel
theorem dX1_isFreeCard_1 : decode cX1_isFreeCard 1 = .ok (.getfield 33, 3) := by decide +kernel
theorem dX1_isFreeCard_4 : decode cX1_isFreeCard 4 = .ok (.iload_n 1, 1) := by decide +kernel
theorem dX1_isFreeCard_5 : decode cX1_isFreeCard 5 = .ok (.invokevirtual 91, 3) := by decide +kernel
theorem dX1_isFreeCard_8 : decode cX1_isFreeCard 8 = .ok (.bipush (-9), 2) := by decide +kernel
theorem dX1_isFreeCard_10 : decode cX1_isFreeCard 10 = .ok (.if_icmp .ne 7, 3) := by decide +kernel
theorem dX1_isFreeCard_13 : decode cX1_isFreeCard 13 = .ok (.iconst 1, 1) := by decide +kernel
theorem dX1_isFreeCard_14 : decode cX1_isFreeCard 14 = .ok (.goto 4, 3) := by decide +kernel
theorem dX1_isFreeCard_17 : decode cX1_isFreeCard 17 = .ok (.iconst 0, 1) := by decide +kernel
theorem dX1_isFreeCard_18 : decode cX1_isFreeCard 18 = .ok (.ireturn, 1) := by decide +kernel
def F_X1_isFreeCard (n : Nat) (S : aSt) (a0 : Nat) (a1 : Int32) : Option Int32 :=
rfd (S.2.2 a0 6) 4 fun k1 =>
(F_X5_questionOf n S k1 a1).bind fun r5 =>
if r5 = (-9 : Int32) then (some (1 : Int32)) else
some (0 : Int32)
set_option maxHeartbeats 4000000 in
set_option maxRecDepth 100000 in
theorem C_X1_isFreeCard (G : aG) (l : Launch) (n : Nat) (S : aSt) (a0 : Nat) (a1 : Int32) (r : Int32) (ha0 : isT a0 0 = true) (hf : F_X1_isFreeCard n S a0 a1 = some r) : Ctr G l yX1_isFreeCard mX1_isFreeCard (rmM 2) 97 97 S [.ref a0, .int a1] (some (.int r)) S := by
  refine Ctr.of (by decide) rfl rfl (Nat.le_of_ble_eq_true rfl) [(0, .ref a0), (1, .int a1)] rfl ?_
  unfold F_X1_isFreeCard at hf
  refine Go.aload_n 0 1 rfl dX1_isFreeCard_0 rfl ?_
  obtain ⟨k1, qk1, hk1, hf⟩ := f_rfd hf
  refine Go.getR 4 rfl dX1_isFreeCard_1 fl_X1_33 rfl (isT_lt ha0) (isT_sh ha0) qk1 ?_
  refine Go.iload_n 1 5 rfl dX1_isFreeCard_4 rfl ?_
  obtain ⟨r5, er5, hf⟩ := f_bnd hf
  refine Go.cV 8 [.int a1] [] (C_X5_questionOf G l n S k1 a1 r5 hk1 er5) rfl dX1_isFreeCard_5 cv_X1_91 hk1 (by decide) (by decide) rfl (Nat.le_of_ble_eq_true rfl) ?_
  refine Go.bipush (-9 : Int32) 10 rfl dX1_isFreeCard_8 cb_m9 ?_
  refine Go.icmp_ne 17 13 rfl dX1_isFreeCard_10 rfl (fun hc => ?_) (fun hc => ?_)
  · replace hf := f_el hf hc
    refine Go.iconst (0 : Int32) 18 rfl dX1_isFreeCard_17 ci_0 ?_
    exact Go.zr rfl (Or.inl rfl) dX1_isFreeCard_18 hf
  · replace hf := f_if hf hc
    refine Go.iconst (1 : Int32) 14 rfl dX1_isFreeCard_13 ci_1 ?_
    refine Go.goto 18 dX1_isFreeCard_14 rfl ?_
    exact Go.zr rfl (Or.inr rfl) dX1_isFreeCard_18 hf
theorem dX1_isFreeQuestion_0 : decode cX1_isFreeQuestion 0 = .ok (.aload_n 0, 1) := by decide +kernel
theorem dX1_isFreeQuestion_1 : decode cX1_isFreeQuestion 1 = .ok (.getfield 33, 3) := by decide +kernel
theorem dX1_isFreeQuestion_4 : decode cX1_isFreeQuestion 4 = .ok (.getfield 94, 3) := by decide +kernel
theorem dX1_isFreeQuestion_7 : decode cX1_isFreeQuestion 7 = .ok (.iload_n 1, 1) := by decide +kernel
theorem dX1_isFreeQuestion_8 : decode cX1_isFreeQuestion 8 = .ok (.iaload, 1) := by decide +kernel
theorem dX1_isFreeQuestion_9 : decode cX1_isFreeQuestion 9 = .ok (.bipush (-9), 2) := by decide +kernel
theorem dX1_isFreeQuestion_11 : decode cX1_isFreeQuestion 11 = .ok (.if_icmp .ne 7, 3) := by decide +kernel
theorem dX1_isFreeQuestion_14 : decode cX1_isFreeQuestion 14 = .ok (.iconst 1, 1) := by decide +kernel
theorem dX1_isFreeQuestion_15 : decode cX1_isFreeQuestion 15 = .ok (.goto 4, 3) := by decide +kernel
theorem dX1_isFreeQuestion_18 : decode cX1_isFreeQuestion 18 = .ok (.iconst 0, 1) := by decide +kernel
theorem dX1_isFreeQuestion_19 : decode cX1_isFreeQuestion 19 = .ok (.ireturn, 1) := by decide +kernel
def F_X1_isFreeQuestion (n : Nat) (S : aSt) (a0 : Nat) (a1 : Int32) : Option Int32 :=
rfd (S.2.2 a0 6) 4 fun k1 =>
rfd (S.2.2 k1 3) 7 fun k4 =>
grd (inb a1 (SH k4).2) <|
if (S.1 k4 a1.toNatClampNeg) = (-9 : Int32) then (some (1 : Int32)) else
some (0 : Int32)
set_option maxHeartbeats 4000000 in
set_option maxRecDepth 100000 in
theorem C_X1_isFreeQuestion (G : aG) (l : Launch) (n : Nat) (S : aSt) (a0 : Nat) (a1 : Int32) (r : Int32) (ha0 : isT a0 0 = true) (hf : F_X1_isFreeQuestion n S a0 a1 = some r) : Ctr G l yX1_isFreeQuestion mX1_isFreeQuestion (rmM 1) 97 97 S [.ref a0, .int a1] (some (.int r)) S := by
  refine Ctr.of (by decide) rfl rfl (Nat.le_of_ble_eq_true rfl) [(0, .ref a0), (1, .int a1)] rfl ?_
  unfold F_X1_isFreeQuestion at hf
  refine Go.aload_n 0 1 rfl dX1_isFreeQuestion_0 rfl ?_
  obtain ⟨k1, qk1, hk1, hf⟩ := f_rfd hf
  refine Go.getR 4 rfl dX1_isFreeQuestion_1 fl_X1_33 rfl (isT_lt ha0) (isT_sh ha0) qk1 ?_
  obtain ⟨k4, qk4, hk4, hf⟩ := f_rfd hf
  refine Go.getR 7 rfl dX1_isFreeQuestion_4 fl_X1_94 rfl (isT_lt hk1) (isT_sh hk1) qk4 ?_
  refine Go.iload_n 1 8 rfl dX1_isFreeQuestion_7 rfl ?_
  obtain ⟨g8, hf⟩ := f_grd hf
  refine Go.iald 9 rfl dX1_isFreeQuestion_8 (isT_lt hk4) (isT_sh hk4) g8 ?_
  refine Go.bipush (-9 : Int32) 11 rfl dX1_isFreeQuestion_9 cb_m9 ?_
  refine Go.icmp_ne 18 14 rfl dX1_isFreeQuestion_11 rfl (fun hc => ?_) (fun hc => ?_)
  · replace hf := f_el hf hc
    refine Go.iconst (0 : Int32) 19 rfl dX1_isFreeQuestion_18 ci_0 ?_
    exact Go.zr rfl (Or.inl rfl) dX1_isFreeQuestion_19 hf
  · replace hf := f_if hf hc
    refine Go.iconst (1 : Int32) 15 rfl dX1_isFreeQuestion_14 ci_1 ?_
    refine Go.goto 19 dX1_isFreeQuestion_15 rfl ?_
    exact Go.zr rfl (Or.inr rfl) dX1_isFreeQuestion_19 hf
theorem dX1_freeCards_0 : decode cX1_freeCards 0 = .ok (.aload_n 0, 1) := by decide +kernel
theorem dX1_freeCards_1 : decode cX1_freeCards 1 = .ok (.invokevirtual 97, 3) := by decide +kernel
theorem dX1_freeCards_4 : decode cX1_freeCards 4 = .ok (.istore_n 1, 1) := by decide +kernel
theorem dX1_freeCards_5 : decode cX1_freeCards 5 = .ok (.iconst 0, 1) := by decide +kernel
theorem dX1_freeCards_6 : decode cX1_freeCards 6 = .ok (.istore_n 2, 1) := by decide +kernel
theorem dX1_freeCards_7 : decode cX1_freeCards 7 = .ok (.iload_n 2, 1) := by decide +kernel
theorem dX1_freeCards_8 : decode cX1_freeCards 8 = .ok (.aload_n 0, 1) := by decide +kernel
theorem dX1_freeCards_9 : decode cX1_freeCards 9 = .ok (.getfield 41, 3) := by decide +kernel
theorem dX1_freeCards_12 : decode cX1_freeCards 12 = .ok (.if_icmp .ge 33, 3) := by decide +kernel
theorem dX1_freeCards_15 : decode cX1_freeCards 15 = .ok (.aload_n 0, 1) := by decide +kernel
theorem dX1_freeCards_16 : decode cX1_freeCards 16 = .ok (.iload_n 2, 1) := by decide +kernel
theorem dX1_freeCards_17 : decode cX1_freeCards 17 = .ok (.invokevirtual 101, 3) := by decide +kernel
theorem dX1_freeCards_20 : decode cX1_freeCards 20 = .ok (.ifCond .ne 19, 3) := by decide +kernel
theorem dX1_freeCards_23 : decode cX1_freeCards 23 = .ok (.iload_n 1, 1) := by decide +kernel
theorem dX1_freeCards_24 : decode cX1_freeCards 24 = .ok (.iconst 1, 1) := by decide +kernel
theorem dX1_freeCards_25 : decode cX1_freeCards 25 = .ok (.aload_n 0, 1) := by decide +kernel
theorem dX1_freeCards_26 : decode cX1_freeCards 26 = .ok (.getfield 33, 3) := by decide +kernel
theorem dX1_freeCards_29 : decode cX1_freeCards 29 = .ok (.getfield 94, 3) := by decide +kernel
theorem dX1_freeCards_32 : decode cX1_freeCards 32 = .ok (.iload_n 2, 1) := by decide +kernel
theorem dX1_freeCards_33 : decode cX1_freeCards 33 = .ok (.iaload, 1) := by decide +kernel
theorem dX1_freeCards_34 : decode cX1_freeCards 34 = .ok (.ishl, 1) := by decide +kernel
theorem dX1_freeCards_35 : decode cX1_freeCards 35 = .ok (.iconst (-1), 1) := by decide +kernel
theorem dX1_freeCards_36 : decode cX1_freeCards 36 = .ok (.ixor, 1) := by decide +kernel
theorem dX1_freeCards_37 : decode cX1_freeCards 37 = .ok (.iand, 1) := by decide +kernel
theorem dX1_freeCards_38 : decode cX1_freeCards 38 = .ok (.istore_n 1, 1) := by decide +kernel
theorem dX1_freeCards_39 : decode cX1_freeCards 39 = .ok (.iinc 2 1, 3) := by decide +kernel
theorem dX1_freeCards_42 : decode cX1_freeCards 42 = .ok (.goto (-35), 3) := by decide +kernel
theorem dX1_freeCards_45 : decode cX1_freeCards 45 = .ok (.iload_n 1, 1) := by decide +kernel
theorem dX1_freeCards_46 : decode cX1_freeCards 46 = .ok (.ireturn, 1) := by decide +kernel
def F_X1_freeCards_L7 (n : Nat) (S : aSt) (a0 : Nat) (K45 : Int32 → Option Int32) : Nat → Int32 → Int32 → Option Int32
  | 0, _, _ => none
  | fu + 1, l7_1, l7_2 =>
    if (S.1 a0 8) ≤ l7_2 then (K45 l7_1) else
    (F_X1_isFreeQuestion n S a0 l7_2).bind fun r17 =>
    jn (fun (j39_1 : Int32) => (F_X1_freeCards_L7 n S a0 K45 fu j39_1 (l7_2 + (1 : Int32)) : Option Int32)) fun K39 =>
    if r17 = 0 then (rfd (S.2.2 a0 6) 4 fun k26 =>
    rfd (S.2.2 k26 3) 7 fun k29 =>
    grd (inb l7_2 (SH k29).2) <|
    nm (l7_1 &&& (((1 : Int32) <<< ((S.1 k29 l7_2.toNatClampNeg) &&& 31)) ^^^ (-1 : Int32))) fun v38 =>
    K39 v38) else
    K39 l7_1
def F_X1_freeCards (n : Nat) (S : aSt) (a0 : Nat) : Option Int32 :=
(F_X1_allCards n S a0).bind fun r1 =>
jn (fun (x45_1 : Int32) => (some x45_1 : Option Int32)) fun K45 =>
F_X1_freeCards_L7 n S a0 K45 n r1 (0 : Int32)
set_option maxHeartbeats 4000000 in
set_option maxRecDepth 100000 in
theorem C_X1_freeCards (G : aG) (l : Launch) (n : Nat) (S : aSt) (a0 : Nat) (r : Int32) (ha0 : isT a0 0 = true) (hf : F_X1_freeCards n S a0 = some r) : Ctr G l yX1_freeCards mX1_freeCards (rmM 2) 97 97 S [.ref a0] (some (.int r)) S := by
  refine Ctr.of (by decide) rfl rfl (Nat.le_of_ble_eq_true rfl) [(0, .ref a0)] rfl ?_
  unfold F_X1_freeCards at hf
  refine Go.aload_n 0 1 rfl dX1_freeCards_0 rfl ?_
  obtain ⟨r1, er1, hf⟩ := f_bnd hf
  refine Go.cV 4 [] [] (C_X1_allCards G l n S a0 r1 ha0 er1) rfl dX1_freeCards_1 cv_X1_97 ha0 (by decide) (by decide) rfl (Nat.le_of_ble_eq_true rfl) ?_
  refine Go.istore_n 5 [(1, .int r1), (0, .ref a0)] rfl dX1_freeCards_4 (by decide) rfl ?_
  refine Go.iconst (0 : Int32) 6 rfl dX1_freeCards_5 ci_0 ?_
  refine Go.istore_n 7 [(2, .int (0 : Int32)), (1, .int r1), (0, .ref a0)] rfl dX1_freeCards_6 (by decide) rfl ?_
  obtain ⟨K45, eK45, hf⟩ := f_jn hf
  have J45 : ∀ (x45_1 : Int32), K45 x45_1 = some r → GoM G l 2 (TmR G (some (.int r)) 97 S 0 0) mX1_freeCards 45 [(1, .int x45_1)] [] S := by
    intro x45_1 hf
    rw [eK45] at hf
    refine Go.iload_n 0 46 rfl dX1_freeCards_45 rfl ?_
    exact Go.ir rfl dX1_freeCards_46 hf
  clear eK45
  have L7 : ∀ (fu : Nat) (l7_1 : Int32) (l7_2 : Int32), F_X1_freeCards_L7 n S a0 K45 fu l7_1 l7_2 = some r → GoM G l 2 (TmR G (some (.int r)) 97 S 0 0) mX1_freeCards 7 [(0, .ref a0), (1, .int l7_1), (2, .int l7_2)] [] S := by
    intro fu
    induction fu with
    | zero => intro l7_1 l7_2 hf; rw [F_X1_freeCards_L7] at hf; cases hf
    | succ fu ih =>
      intro l7_1 l7_2 hf
      rw [F_X1_freeCards_L7] at hf
      refine Go.iload_n 2 8 rfl dX1_freeCards_7 rfl ?_
      refine Go.aload_n 0 9 rfl dX1_freeCards_8 rfl ?_
      refine Go.getI 12 rfl dX1_freeCards_9 fl_X1_41 rfl (isT_lt ha0) (isT_sh ha0) ?_
      refine Go.icmp_ge 45 15 rfl dX1_freeCards_12 rfl (fun hc => ?_) (fun hc => ?_)
      · replace hf := f_if hf hc
        exact Go.sub [1] [(1, .int l7_1)] rfl (J45 l7_1 hf)
      · replace hf := f_el hf hc
        refine Go.aload_n 0 16 rfl dX1_freeCards_15 rfl ?_
        refine Go.iload_n 2 17 rfl dX1_freeCards_16 rfl ?_
        obtain ⟨r17, er17, hf⟩ := f_bnd hf
        refine Go.cV 20 [.int l7_2] [] (C_X1_isFreeQuestion G l n S a0 l7_2 r17 ha0 er17) rfl dX1_freeCards_17 cv_X1_101 ha0 (by decide) (by decide) rfl (Nat.le_of_ble_eq_true rfl) ?_
        obtain ⟨K39, eK39, hf⟩ := f_jn hf
        have J39 : ∀ (j39_1 : Int32), K39 j39_1 = some r → GoM G l 2 (TmR G (some (.int r)) 97 S 0 0) mX1_freeCards 39 [(0, .ref a0), (1, .int j39_1), (2, .int l7_2)] [] S := by
          intro j39_1 hf
          rw [eK39] at hf
          refine Go.inc 2 42 (1 : Int32) [(2, .int (l7_2 + (1 : Int32))), (0, .ref a0), (1, .int j39_1)] rfl dX1_freeCards_39 rfl ci_1 (by decide) rfl ?_
          refine Go.goto 7 dX1_freeCards_42 rfl ?_
          exact Go.sub [1, 2, 0] [(0, .ref a0), (1, .int j39_1), (2, .int (l7_2 + (1 : Int32)))] rfl (ih j39_1 (l7_2 + (1 : Int32)) hf)
        clear eK39
        refine Go.if_ne 39 23 rfl dX1_freeCards_20 rfl (fun hc => ?_) (fun hc => ?_)
        · replace hf := f_el hf hc
          exact J39 l7_1 hf
        · replace hf := f_if hf hc
          refine Go.iload_n 1 24 rfl dX1_freeCards_23 rfl ?_
          refine Go.iconst (1 : Int32) 25 rfl dX1_freeCards_24 ci_1 ?_
          refine Go.aload_n 0 26 rfl dX1_freeCards_25 rfl ?_
          obtain ⟨k26, qk26, hk26, hf⟩ := f_rfd hf
          refine Go.getR 29 rfl dX1_freeCards_26 fl_X1_33 rfl (isT_lt ha0) (isT_sh ha0) qk26 ?_
          obtain ⟨k29, qk29, hk29, hf⟩ := f_rfd hf
          refine Go.getR 32 rfl dX1_freeCards_29 fl_X1_94 rfl (isT_lt hk26) (isT_sh hk26) qk29 ?_
          refine Go.iload_n 2 33 rfl dX1_freeCards_32 rfl ?_
          obtain ⟨g33, hf⟩ := f_grd hf
          refine Go.iald 34 rfl dX1_freeCards_33 (isT_lt hk29) (isT_sh hk29) g33 ?_
          refine Go.ishl 35 rfl dX1_freeCards_34 ?_
          refine Go.iconst (-1 : Int32) 36 rfl dX1_freeCards_35 ci_m1 ?_
          refine Go.ixor 37 rfl dX1_freeCards_36 ?_
          refine Go.iand 38 rfl dX1_freeCards_37 ?_
          obtain ⟨v38, ev38, hf⟩ := f_nm hf
          refine Go.topi v38 ev38 ?_
          refine Go.istore_n 39 [(1, .int v38), (0, .ref a0), (2, .int l7_2)] rfl dX1_freeCards_38 (by decide) rfl ?_
          exact Go.sub [1, 0, 2] [(0, .ref a0), (1, .int v38), (2, .int l7_2)] rfl (J39 v38 hf)
  exact Go.sub [2, 1, 0] [(0, .ref a0), (1, .int r1), (2, .int (0 : Int32))] rfl (L7 n r1 (0 : Int32) hf)
theorem dX1_answered_0 : decode cX1_answered 0 = .ok (.iconst 0, 1) := by decide +kernel
theorem dX1_answered_1 : decode cX1_answered 1 = .ok (.istore_n 1, 1) := by decide +kernel
theorem dX1_answered_2 : decode cX1_answered 2 = .ok (.iconst 0, 1) := by decide +kernel
theorem dX1_answered_3 : decode cX1_answered 3 = .ok (.istore_n 2, 1) := by decide +kernel
theorem dX1_answered_4 : decode cX1_answered 4 = .ok (.iload_n 2, 1) := by decide +kernel
theorem dX1_answered_5 : decode cX1_answered 5 = .ok (.aload_n 0, 1) := by decide +kernel
theorem dX1_answered_6 : decode cX1_answered 6 = .ok (.getfield 41, 3) := by decide +kernel
theorem dX1_answered_9 : decode cX1_answered 9 = .ok (.if_icmp .ge 20, 3) := by decide +kernel
theorem dX1_answered_12 : decode cX1_answered 12 = .ok (.aload_n 0, 1) := by decide +kernel
theorem dX1_answered_13 : decode cX1_answered 13 = .ok (.iload_n 2, 1) := by decide +kernel
theorem dX1_answered_14 : decode cX1_answered 14 = .ok (.invokevirtual 101, 3) := by decide +kernel
theorem dX1_answered_17 : decode cX1_answered 17 = .ok (.ifCond .ne 6, 3) := by decide +kernel
theorem dX1_answered_20 : decode cX1_answered 20 = .ok (.iinc 1 1, 3) := by decide +kernel
theorem dX1_answered_23 : decode cX1_answered 23 = .ok (.iinc 2 1, 3) := by decide +kernel
theorem dX1_answered_26 : decode cX1_answered 26 = .ok (.goto (-22), 3) := by decide +kernel
theorem dX1_answered_29 : decode cX1_answered 29 = .ok (.iload_n 1, 1) := by decide +kernel
theorem dX1_answered_30 : decode cX1_answered 30 = .ok (.ireturn, 1) := by decide +kernel
def F_X1_answered_L4 (n : Nat) (S : aSt) (a0 : Nat) (K29 : Int32 → Option Int32) : Nat → Int32 → Int32 → Option Int32
  | 0, _, _ => none
  | fu + 1, l4_1, l4_2 =>
    if (S.1 a0 8) ≤ l4_2 then (K29 l4_1) else
    (F_X1_isFreeQuestion n S a0 l4_2).bind fun r14 =>
    jn (fun (j23_1 : Int32) => (F_X1_answered_L4 n S a0 K29 fu j23_1 (l4_2 + (1 : Int32)) : Option Int32)) fun K23 =>
    if r14 = 0 then (K23 (l4_1 + (1 : Int32))) else
    K23 l4_1
def F_X1_answered (n : Nat) (S : aSt) (a0 : Nat) : Option Int32 :=
jn (fun (x29_1 : Int32) => (some x29_1 : Option Int32)) fun K29 =>
F_X1_answered_L4 n S a0 K29 n (0 : Int32) (0 : Int32)
set_option maxHeartbeats 4000000 in
set_option maxRecDepth 100000 in
theorem C_X1_answered (G : aG) (l : Launch) (n : Nat) (S : aSt) (a0 : Nat) (r : Int32) (ha0 : isT a0 0 = true) (hf : F_X1_answered n S a0 = some r) : Ctr G l yX1_answered mX1_answered (rmM 2) 97 97 S [.ref a0] (some (.int r)) S := by
  refine Ctr.of (by decide) rfl rfl (Nat.le_of_ble_eq_true rfl) [(0, .ref a0)] rfl ?_
  unfold F_X1_answered at hf
  refine Go.iconst (0 : Int32) 1 rfl dX1_answered_0 ci_0 ?_
  refine Go.istore_n 2 [(1, .int (0 : Int32)), (0, .ref a0)] rfl dX1_answered_1 (by decide) rfl ?_
  refine Go.iconst (0 : Int32) 3 rfl dX1_answered_2 ci_0 ?_
  refine Go.istore_n 4 [(2, .int (0 : Int32)), (1, .int (0 : Int32)), (0, .ref a0)] rfl dX1_answered_3 (by decide) rfl ?_
  obtain ⟨K29, eK29, hf⟩ := f_jn hf
  have J29 : ∀ (x29_1 : Int32), K29 x29_1 = some r → GoM G l 2 (TmR G (some (.int r)) 97 S 0 0) mX1_answered 29 [(1, .int x29_1)] [] S := by
    intro x29_1 hf
    rw [eK29] at hf
    refine Go.iload_n 0 30 rfl dX1_answered_29 rfl ?_
    exact Go.ir rfl dX1_answered_30 hf
  clear eK29
  have L4 : ∀ (fu : Nat) (l4_1 : Int32) (l4_2 : Int32), F_X1_answered_L4 n S a0 K29 fu l4_1 l4_2 = some r → GoM G l 2 (TmR G (some (.int r)) 97 S 0 0) mX1_answered 4 [(0, .ref a0), (1, .int l4_1), (2, .int l4_2)] [] S := by
    intro fu
    induction fu with
    | zero => intro l4_1 l4_2 hf; rw [F_X1_answered_L4] at hf; cases hf
    | succ fu ih =>
      intro l4_1 l4_2 hf
      rw [F_X1_answered_L4] at hf
      refine Go.iload_n 2 5 rfl dX1_answered_4 rfl ?_
      refine Go.aload_n 0 6 rfl dX1_answered_5 rfl ?_
      refine Go.getI 9 rfl dX1_answered_6 fl_X1_41 rfl (isT_lt ha0) (isT_sh ha0) ?_
      refine Go.icmp_ge 29 12 rfl dX1_answered_9 rfl (fun hc => ?_) (fun hc => ?_)
      · replace hf := f_if hf hc
        exact Go.sub [1] [(1, .int l4_1)] rfl (J29 l4_1 hf)
      · replace hf := f_el hf hc
        refine Go.aload_n 0 13 rfl dX1_answered_12 rfl ?_
        refine Go.iload_n 2 14 rfl dX1_answered_13 rfl ?_
        obtain ⟨r14, er14, hf⟩ := f_bnd hf
        refine Go.cV 17 [.int l4_2] [] (C_X1_isFreeQuestion G l n S a0 l4_2 r14 ha0 er14) rfl dX1_answered_14 cv_X1_101 ha0 (by decide) (by decide) rfl (Nat.le_of_ble_eq_true rfl) ?_
        obtain ⟨K23, eK23, hf⟩ := f_jn hf
        have J23 : ∀ (j23_1 : Int32), K23 j23_1 = some r → GoM G l 2 (TmR G (some (.int r)) 97 S 0 0) mX1_answered 23 [(0, .ref a0), (1, .int j23_1), (2, .int l4_2)] [] S := by
          intro j23_1 hf
          rw [eK23] at hf
          refine Go.inc 2 26 (1 : Int32) [(2, .int (l4_2 + (1 : Int32))), (0, .ref a0), (1, .int j23_1)] rfl dX1_answered_23 rfl ci_1 (by decide) rfl ?_
          refine Go.goto 4 dX1_answered_26 rfl ?_
          exact Go.sub [1, 2, 0] [(0, .ref a0), (1, .int j23_1), (2, .int (l4_2 + (1 : Int32)))] rfl (ih j23_1 (l4_2 + (1 : Int32)) hf)
        clear eK23
        refine Go.if_ne 23 20 rfl dX1_answered_17 rfl (fun hc => ?_) (fun hc => ?_)
        · replace hf := f_el hf hc
          exact J23 l4_1 hf
        · replace hf := f_if hf hc
          refine Go.inc 1 23 (1 : Int32) [(1, .int (l4_1 + (1 : Int32))), (0, .ref a0), (2, .int l4_2)] rfl dX1_answered_20 rfl ci_1 (by decide) rfl ?_
          exact Go.sub [1, 0, 2] [(0, .ref a0), (1, .int (l4_1 + (1 : Int32))), (2, .int l4_2)] rfl (J23 (l4_1 + (1 : Int32)) hf)
  exact Go.sub [2, 1, 0] [(0, .ref a0), (1, .int (0 : Int32)), (2, .int (0 : Int32))] rfl (L4 n (0 : Int32) (0 : Int32) hf)
theorem dX1_meaningOf_0 : decode cX1_meaningOf 0 = .ok (.aload_n 0, 1) := by decide +kernel
theorem dX1_meaningOf_1 : decode cX1_meaningOf 1 = .ok (.getfield 9, 3) := by decide +kernel
theorem dX1_meaningOf_4 : decode cX1_meaningOf 4 = .ok (.iload_n 1, 1) := by decide +kernel
theorem dX1_meaningOf_5 : decode cX1_meaningOf 5 = .ok (.iaload, 1) := by decide +kernel
theorem dX1_meaningOf_6 : decode cX1_meaningOf 6 = .ok (.aload_n 0, 1) := by decide +kernel
theorem dX1_meaningOf_7 : decode cX1_meaningOf 7 = .ok (.getfield 15, 3) := by decide +kernel
theorem dX1_meaningOf_10 : decode cX1_meaningOf 10 = .ok (.iload_n 1, 1) := by decide +kernel
theorem dX1_meaningOf_11 : decode cX1_meaningOf 11 = .ok (.iaload, 1) := by decide +kernel
theorem dX1_meaningOf_12 : decode cX1_meaningOf 12 = .ok (.aload_n 0, 1) := by decide +kernel
theorem dX1_meaningOf_13 : decode cX1_meaningOf 13 = .ok (.getfield 33, 3) := by decide +kernel
theorem dX1_meaningOf_16 : decode cX1_meaningOf 16 = .ok (.getfield 82, 3) := by decide +kernel
theorem dX1_meaningOf_19 : decode cX1_meaningOf 19 = .ok (.iload_n 1, 1) := by decide +kernel
theorem dX1_meaningOf_20 : decode cX1_meaningOf 20 = .ok (.iaload, 1) := by decide +kernel
theorem dX1_meaningOf_21 : decode cX1_meaningOf 21 = .ok (.invokestatic 104, 3) := by decide +kernel
theorem dX1_meaningOf_24 : decode cX1_meaningOf 24 = .ok (.ireturn, 1) := by decide +kernel
def F_X1_meaningOf (n : Nat) (S : aSt) (a0 : Nat) (a1 : Int32) : Option Int32 :=
rfd (S.2.2 a0 0) 7 fun k1 =>
grd (inb a1 (SH k1).2) <|
rfd (S.2.2 a0 1) 7 fun k7 =>
grd (inb a1 (SH k7).2) <|
rfd (S.2.2 a0 6) 4 fun k13 =>
rfd (S.2.2 k13 1) 7 fun k16 =>
grd (inb a1 (SH k16).2) <|
(F_X0_meaning n S (S.1 k1 a1.toNatClampNeg) (S.1 k7 a1.toNatClampNeg) (S.1 k16 a1.toNatClampNeg)).bind fun r21 =>
some r21
set_option maxHeartbeats 4000000 in
set_option maxRecDepth 100000 in
theorem C_X1_meaningOf (G : aG) (l : Launch) (n : Nat) (S : aSt) (a0 : Nat) (a1 : Int32) (r : Int32) (ha0 : isT a0 0 = true) (hf : F_X1_meaningOf n S a0 a1 = some r) : Ctr G l yX1_meaningOf mX1_meaningOf (rmM 2) 97 97 S [.ref a0, .int a1] (some (.int r)) S := by
  refine Ctr.of (by decide) rfl rfl (Nat.le_of_ble_eq_true rfl) [(0, .ref a0), (1, .int a1)] rfl ?_
  unfold F_X1_meaningOf at hf
  refine Go.aload_n 0 1 rfl dX1_meaningOf_0 rfl ?_
  obtain ⟨k1, qk1, hk1, hf⟩ := f_rfd hf
  refine Go.getR 4 rfl dX1_meaningOf_1 fl_X1_9 rfl (isT_lt ha0) (isT_sh ha0) qk1 ?_
  refine Go.iload_n 1 5 rfl dX1_meaningOf_4 rfl ?_
  obtain ⟨g5, hf⟩ := f_grd hf
  refine Go.iald 6 rfl dX1_meaningOf_5 (isT_lt hk1) (isT_sh hk1) g5 ?_
  refine Go.aload_n 0 7 rfl dX1_meaningOf_6 rfl ?_
  obtain ⟨k7, qk7, hk7, hf⟩ := f_rfd hf
  refine Go.getR 10 rfl dX1_meaningOf_7 fl_X1_15 rfl (isT_lt ha0) (isT_sh ha0) qk7 ?_
  refine Go.iload_n 1 11 rfl dX1_meaningOf_10 rfl ?_
  obtain ⟨g11, hf⟩ := f_grd hf
  refine Go.iald 12 rfl dX1_meaningOf_11 (isT_lt hk7) (isT_sh hk7) g11 ?_
  refine Go.aload_n 0 13 rfl dX1_meaningOf_12 rfl ?_
  obtain ⟨k13, qk13, hk13, hf⟩ := f_rfd hf
  refine Go.getR 16 rfl dX1_meaningOf_13 fl_X1_33 rfl (isT_lt ha0) (isT_sh ha0) qk13 ?_
  obtain ⟨k16, qk16, hk16, hf⟩ := f_rfd hf
  refine Go.getR 19 rfl dX1_meaningOf_16 fl_X1_82 rfl (isT_lt hk13) (isT_sh hk13) qk16 ?_
  refine Go.iload_n 1 20 rfl dX1_meaningOf_19 rfl ?_
  obtain ⟨g20, hf⟩ := f_grd hf
  refine Go.iald 21 rfl dX1_meaningOf_20 (isT_lt hk16) (isT_sh hk16) g20 ?_
  obtain ⟨r21, er21, hf⟩ := f_bnd hf
  refine Go.cS 24 [.int (S.1 k1 a1.toNatClampNeg), .int (S.1 k7 a1.toNatClampNeg), .int (S.1 k16 a1.toNatClampNeg)] [] (C_X0_meaning G l n S (S.1 k1 a1.toNatClampNeg) (S.1 k7 a1.toNatClampNeg) (S.1 k16 a1.toNatClampNeg) r21  er21) rfl dX1_meaningOf_21 cx_X1_104 (by decide) (by decide) rfl (Nat.le_of_ble_eq_true rfl) ?_
  exact Go.ir rfl dX1_meaningOf_24 hf
theorem dX1_isFitting_0 : decode cX1_isFitting 0 = .ok (.aload_n 0, 1) := by decide +kernel
theorem dX1_isFitting_1 : decode cX1_isFitting 1 = .ok (.iload_n 1, 1) := by decide +kernel
theorem dX1_isFitting_2 : decode cX1_isFitting 2 = .ok (.invokevirtual 108, 3) := by decide +kernel
theorem dX1_isFitting_5 : decode cX1_isFitting 5 = .ok (.istore_n 3, 1) := by decide +kernel
theorem dX1_isFitting_6 : decode cX1_isFitting 6 = .ok (.aload_n 0, 1) := by decide +kernel
theorem dX1_isFitting_7 : decode cX1_isFitting 7 = .ok (.getfield 9, 3) := by decide +kernel
theorem dX1_isFitting_10 : decode cX1_isFitting 10 = .ok (.iload_n 1, 1) := by decide +kernel
theorem dX1_isFitting_11 : decode cX1_isFitting 11 = .ok (.iaload, 1) := by decide +kernel
theorem dX1_isFitting_12 : decode cX1_isFitting 12 = .ok (.aload_n 0, 1) := by decide +kernel
theorem dX1_isFitting_13 : decode cX1_isFitting 13 = .ok (.getfield 18, 3) := by decide +kernel
theorem dX1_isFitting_16 : decode cX1_isFitting 16 = .ok (.iload_n 2, 1) := by decide +kernel
theorem dX1_isFitting_17 : decode cX1_isFitting 17 = .ok (.iaload, 1) := by decide +kernel
theorem dX1_isFitting_18 : decode cX1_isFitting 18 = .ok (.invokestatic 111, 3) := by decide +kernel
theorem dX1_isFitting_21 : decode cX1_isFitting 21 = .ok (.ifCond .eq 27, 3) := by decide +kernel
theorem dX1_isFitting_24 : decode cX1_isFitting 24 = .ok (.iload_n 3, 1) := by decide +kernel
theorem dX1_isFitting_25 : decode cX1_isFitting 25 = .ok (.aload_n 0, 1) := by decide +kernel
theorem dX1_isFitting_26 : decode cX1_isFitting 26 = .ok (.getfield 21, 3) := by decide +kernel
theorem dX1_isFitting_29 : decode cX1_isFitting 29 = .ok (.iload_n 2, 1) := by decide +kernel
theorem dX1_isFitting_30 : decode cX1_isFitting 30 = .ok (.iaload, 1) := by decide +kernel
theorem dX1_isFitting_31 : decode cX1_isFitting 31 = .ok (.if_icmp .lt 17, 3) := by decide +kernel
theorem dX1_isFitting_34 : decode cX1_isFitting 34 = .ok (.iload_n 3, 1) := by decide +kernel
theorem dX1_isFitting_35 : decode cX1_isFitting 35 = .ok (.aload_n 0, 1) := by decide +kernel
theorem dX1_isFitting_36 : decode cX1_isFitting 36 = .ok (.getfield 24, 3) := by decide +kernel
theorem dX1_isFitting_39 : decode cX1_isFitting 39 = .ok (.iload_n 2, 1) := by decide +kernel
theorem dX1_isFitting_40 : decode cX1_isFitting 40 = .ok (.iaload, 1) := by decide +kernel
theorem dX1_isFitting_41 : decode cX1_isFitting 41 = .ok (.if_icmp .gt 7, 3) := by decide +kernel
theorem dX1_isFitting_44 : decode cX1_isFitting 44 = .ok (.iconst 1, 1) := by decide +kernel
theorem dX1_isFitting_45 : decode cX1_isFitting 45 = .ok (.goto 4, 3) := by decide +kernel
theorem dX1_isFitting_48 : decode cX1_isFitting 48 = .ok (.iconst 0, 1) := by decide +kernel
theorem dX1_isFitting_49 : decode cX1_isFitting 49 = .ok (.ireturn, 1) := by decide +kernel
def F_X1_isFitting (n : Nat) (S : aSt) (a0 : Nat) (a1 : Int32) (a2 : Int32) : Option Int32 :=
(F_X1_meaningOf n S a0 a1).bind fun r2 =>
rfd (S.2.2 a0 0) 7 fun k7 =>
grd (inb a1 (SH k7).2) <|
rfd (S.2.2 a0 2) 7 fun k13 =>
grd (inb a2 (SH k13).2) <|
(F_X0_isA n S (S.1 k7 a1.toNatClampNeg) (S.1 k13 a2.toNatClampNeg)).bind fun r18 =>
if r18 = 0 then (some (0 : Int32)) else
rfd (S.2.2 a0 3) 7 fun k26 =>
grd (inb a2 (SH k26).2) <|
if r2 < (S.1 k26 a2.toNatClampNeg) then (some (0 : Int32)) else
rfd (S.2.2 a0 4) 7 fun k36 =>
grd (inb a2 (SH k36).2) <|
if (S.1 k36 a2.toNatClampNeg) < r2 then (some (0 : Int32)) else
some (1 : Int32)
set_option maxHeartbeats 4000000 in
set_option maxRecDepth 100000 in
theorem C_X1_isFitting (G : aG) (l : Launch) (n : Nat) (S : aSt) (a0 : Nat) (a1 : Int32) (a2 : Int32) (r : Int32) (ha0 : isT a0 0 = true) (hf : F_X1_isFitting n S a0 a1 a2 = some r) : Ctr G l yX1_isFitting mX1_isFitting (rmM 3) 97 97 S [.ref a0, .int a1, .int a2] (some (.int r)) S := by
  refine Ctr.of (by decide) rfl rfl (Nat.le_of_ble_eq_true rfl) [(0, .ref a0), (1, .int a1), (2, .int a2)] rfl ?_
  unfold F_X1_isFitting at hf
  refine Go.aload_n 0 1 rfl dX1_isFitting_0 rfl ?_
  refine Go.iload_n 1 2 rfl dX1_isFitting_1 rfl ?_
  obtain ⟨r2, er2, hf⟩ := f_bnd hf
  refine Go.cV 5 [.int a1] [] (C_X1_meaningOf G l n S a0 a1 r2 ha0 er2) rfl dX1_isFitting_2 cv_X1_108 ha0 (by decide) (by decide) rfl (Nat.le_of_ble_eq_true rfl) ?_
  refine Go.istore_n 6 [(3, .int r2), (0, .ref a0), (1, .int a1), (2, .int a2)] rfl dX1_isFitting_5 (by decide) rfl ?_
  refine Go.aload_n 1 7 rfl dX1_isFitting_6 rfl ?_
  obtain ⟨k7, qk7, hk7, hf⟩ := f_rfd hf
  refine Go.getR 10 rfl dX1_isFitting_7 fl_X1_9 rfl (isT_lt ha0) (isT_sh ha0) qk7 ?_
  refine Go.iload_n 2 11 rfl dX1_isFitting_10 rfl ?_
  obtain ⟨g11, hf⟩ := f_grd hf
  refine Go.iald 12 rfl dX1_isFitting_11 (isT_lt hk7) (isT_sh hk7) g11 ?_
  refine Go.aload_n 1 13 rfl dX1_isFitting_12 rfl ?_
  obtain ⟨k13, qk13, hk13, hf⟩ := f_rfd hf
  refine Go.getR 16 rfl dX1_isFitting_13 fl_X1_18 rfl (isT_lt ha0) (isT_sh ha0) qk13 ?_
  refine Go.iload_n 3 17 rfl dX1_isFitting_16 rfl ?_
  obtain ⟨g17, hf⟩ := f_grd hf
  refine Go.iald 18 rfl dX1_isFitting_17 (isT_lt hk13) (isT_sh hk13) g17 ?_
  obtain ⟨r18, er18, hf⟩ := f_bnd hf
  refine Go.cS 21 [.int (S.1 k7 a1.toNatClampNeg), .int (S.1 k13 a2.toNatClampNeg)] [] (C_X0_isA G l n S (S.1 k7 a1.toNatClampNeg) (S.1 k13 a2.toNatClampNeg) r18  er18) rfl dX1_isFitting_18 cx_X1_111 (by decide) (by decide) rfl (Nat.le_of_ble_eq_true rfl) ?_
  refine Go.if_eq 48 24 rfl dX1_isFitting_21 rfl (fun hc => ?_) (fun hc => ?_)
  · replace hf := f_if hf hc
    refine Go.iconst (0 : Int32) 49 rfl dX1_isFitting_48 ci_0 ?_
    exact Go.zr rfl (Or.inl rfl) dX1_isFitting_49 hf
  · replace hf := f_el hf hc
    refine Go.iload_n 0 25 rfl dX1_isFitting_24 rfl ?_
    refine Go.aload_n 1 26 rfl dX1_isFitting_25 rfl ?_
    obtain ⟨k26, qk26, hk26, hf⟩ := f_rfd hf
    refine Go.getR 29 rfl dX1_isFitting_26 fl_X1_21 rfl (isT_lt ha0) (isT_sh ha0) qk26 ?_
    refine Go.iload_n 3 30 rfl dX1_isFitting_29 rfl ?_
    obtain ⟨g30, hf⟩ := f_grd hf
    refine Go.iald 31 rfl dX1_isFitting_30 (isT_lt hk26) (isT_sh hk26) g30 ?_
    refine Go.icmp_lt 48 34 rfl dX1_isFitting_31 rfl (fun hc => ?_) (fun hc => ?_)
    · replace hf := f_if hf hc
      refine Go.iconst (0 : Int32) 49 rfl dX1_isFitting_48 ci_0 ?_
      exact Go.zr rfl (Or.inl rfl) dX1_isFitting_49 hf
    · replace hf := f_el hf hc
      refine Go.iload_n 0 35 rfl dX1_isFitting_34 rfl ?_
      refine Go.aload_n 1 36 rfl dX1_isFitting_35 rfl ?_
      obtain ⟨k36, qk36, hk36, hf⟩ := f_rfd hf
      refine Go.getR 39 rfl dX1_isFitting_36 fl_X1_24 rfl (isT_lt ha0) (isT_sh ha0) qk36 ?_
      refine Go.iload_n 3 40 rfl dX1_isFitting_39 rfl ?_
      obtain ⟨g40, hf⟩ := f_grd hf
      refine Go.iald 41 rfl dX1_isFitting_40 (isT_lt hk36) (isT_sh hk36) g40 ?_
      refine Go.icmp_gt 48 44 rfl dX1_isFitting_41 rfl (fun hc => ?_) (fun hc => ?_)
      · replace hf := f_if hf hc
        refine Go.iconst (0 : Int32) 49 rfl dX1_isFitting_48 ci_0 ?_
        exact Go.zr rfl (Or.inl rfl) dX1_isFitting_49 hf
      · replace hf := f_el hf hc
        refine Go.iconst (1 : Int32) 45 rfl dX1_isFitting_44 ci_1 ?_
        refine Go.goto 49 dX1_isFitting_45 rfl ?_
        exact Go.zr rfl (Or.inr rfl) dX1_isFitting_49 hf
theorem dX1_fittingCards_0 : decode cX1_fittingCards 0 = .ok (.iconst 0, 1) := by decide +kernel
theorem dX1_fittingCards_1 : decode cX1_fittingCards 1 = .ok (.istore_n 2, 1) := by decide +kernel
theorem dX1_fittingCards_2 : decode cX1_fittingCards 2 = .ok (.iconst 0, 1) := by decide +kernel
theorem dX1_fittingCards_3 : decode cX1_fittingCards 3 = .ok (.istore_n 3, 1) := by decide +kernel
theorem dX1_fittingCards_4 : decode cX1_fittingCards 4 = .ok (.iload_n 3, 1) := by decide +kernel
theorem dX1_fittingCards_5 : decode cX1_fittingCards 5 = .ok (.aload_n 0, 1) := by decide +kernel
theorem dX1_fittingCards_6 : decode cX1_fittingCards 6 = .ok (.getfield 37, 3) := by decide +kernel
theorem dX1_fittingCards_9 : decode cX1_fittingCards 9 = .ok (.if_icmp .ge 24, 3) := by decide +kernel
theorem dX1_fittingCards_12 : decode cX1_fittingCards 12 = .ok (.aload_n 0, 1) := by decide +kernel
theorem dX1_fittingCards_13 : decode cX1_fittingCards 13 = .ok (.iload_n 3, 1) := by decide +kernel
theorem dX1_fittingCards_14 : decode cX1_fittingCards 14 = .ok (.iload_n 1, 1) := by decide +kernel
theorem dX1_fittingCards_15 : decode cX1_fittingCards 15 = .ok (.invokevirtual 115, 3) := by decide +kernel
theorem dX1_fittingCards_18 : decode cX1_fittingCards 18 = .ok (.ifCond .eq 9, 3) := by decide +kernel
theorem dX1_fittingCards_21 : decode cX1_fittingCards 21 = .ok (.iload_n 2, 1) := by decide +kernel
theorem dX1_fittingCards_22 : decode cX1_fittingCards 22 = .ok (.iconst 1, 1) := by decide +kernel
theorem dX1_fittingCards_23 : decode cX1_fittingCards 23 = .ok (.iload_n 3, 1) := by decide +kernel
theorem dX1_fittingCards_24 : decode cX1_fittingCards 24 = .ok (.ishl, 1) := by decide +kernel
theorem dX1_fittingCards_25 : decode cX1_fittingCards 25 = .ok (.ior, 1) := by decide +kernel
theorem dX1_fittingCards_26 : decode cX1_fittingCards 26 = .ok (.istore_n 2, 1) := by decide +kernel
theorem dX1_fittingCards_27 : decode cX1_fittingCards 27 = .ok (.iinc 3 1, 3) := by decide +kernel
theorem dX1_fittingCards_30 : decode cX1_fittingCards 30 = .ok (.goto (-26), 3) := by decide +kernel
theorem dX1_fittingCards_33 : decode cX1_fittingCards 33 = .ok (.iload_n 2, 1) := by decide +kernel
theorem dX1_fittingCards_34 : decode cX1_fittingCards 34 = .ok (.ireturn, 1) := by decide +kernel
def F_X1_fittingCards_L4 (n : Nat) (S : aSt) (a0 : Nat) (a1 : Int32) (K33 : Int32 → Option Int32) : Nat → Int32 → Int32 → Option Int32
  | 0, _, _ => none
  | fu + 1, l4_2, l4_3 =>
    if (S.1 a0 7) ≤ l4_3 then (K33 l4_2) else
    (F_X1_isFitting n S a0 l4_3 a1).bind fun r15 =>
    jn (fun (j27_2 : Int32) => (F_X1_fittingCards_L4 n S a0 a1 K33 fu j27_2 (l4_3 + (1 : Int32)) : Option Int32)) fun K27 =>
    if r15 = 0 then (K27 l4_2) else
    nm (l4_2 ||| ((1 : Int32) <<< (l4_3 &&& 31))) fun v26 =>
    K27 v26
def F_X1_fittingCards (n : Nat) (S : aSt) (a0 : Nat) (a1 : Int32) : Option Int32 :=
jn (fun (x33_2 : Int32) => (some x33_2 : Option Int32)) fun K33 =>
F_X1_fittingCards_L4 n S a0 a1 K33 n (0 : Int32) (0 : Int32)
set_option maxHeartbeats 4000000 in
set_option maxRecDepth 100000 in
theorem C_X1_fittingCards (G : aG) (l : Launch) (n : Nat) (S : aSt) (a0 : Nat) (a1 : Int32) (r : Int32) (ha0 : isT a0 0 = true) (hf : F_X1_fittingCards n S a0 a1 = some r) : Ctr G l yX1_fittingCards mX1_fittingCards (rmM 4) 97 97 S [.ref a0, .int a1] (some (.int r)) S := by
  refine Ctr.of (by decide) rfl rfl (Nat.le_of_ble_eq_true rfl) [(0, .ref a0), (1, .int a1)] rfl ?_
  unfold F_X1_fittingCards at hf
  refine Go.iconst (0 : Int32) 1 rfl dX1_fittingCards_0 ci_0 ?_
  refine Go.istore_n 2 [(2, .int (0 : Int32)), (0, .ref a0), (1, .int a1)] rfl dX1_fittingCards_1 (by decide) rfl ?_
  refine Go.iconst (0 : Int32) 3 rfl dX1_fittingCards_2 ci_0 ?_
  refine Go.istore_n 4 [(3, .int (0 : Int32)), (2, .int (0 : Int32)), (0, .ref a0), (1, .int a1)] rfl dX1_fittingCards_3 (by decide) rfl ?_
  obtain ⟨K33, eK33, hf⟩ := f_jn hf
  have J33 : ∀ (x33_2 : Int32), K33 x33_2 = some r → GoM G l 4 (TmR G (some (.int r)) 97 S 0 0) mX1_fittingCards 33 [(2, .int x33_2)] [] S := by
    intro x33_2 hf
    rw [eK33] at hf
    refine Go.iload_n 0 34 rfl dX1_fittingCards_33 rfl ?_
    exact Go.ir rfl dX1_fittingCards_34 hf
  clear eK33
  have L4 : ∀ (fu : Nat) (l4_2 : Int32) (l4_3 : Int32), F_X1_fittingCards_L4 n S a0 a1 K33 fu l4_2 l4_3 = some r → GoM G l 4 (TmR G (some (.int r)) 97 S 0 0) mX1_fittingCards 4 [(0, .ref a0), (1, .int a1), (2, .int l4_2), (3, .int l4_3)] [] S := by
    intro fu
    induction fu with
    | zero => intro l4_2 l4_3 hf; rw [F_X1_fittingCards_L4] at hf; cases hf
    | succ fu ih =>
      intro l4_2 l4_3 hf
      rw [F_X1_fittingCards_L4] at hf
      refine Go.iload_n 3 5 rfl dX1_fittingCards_4 rfl ?_
      refine Go.aload_n 0 6 rfl dX1_fittingCards_5 rfl ?_
      refine Go.getI 9 rfl dX1_fittingCards_6 fl_X1_37 rfl (isT_lt ha0) (isT_sh ha0) ?_
      refine Go.icmp_ge 33 12 rfl dX1_fittingCards_9 rfl (fun hc => ?_) (fun hc => ?_)
      · replace hf := f_if hf hc
        exact Go.sub [2] [(2, .int l4_2)] rfl (J33 l4_2 hf)
      · replace hf := f_el hf hc
        refine Go.aload_n 0 13 rfl dX1_fittingCards_12 rfl ?_
        refine Go.iload_n 3 14 rfl dX1_fittingCards_13 rfl ?_
        refine Go.iload_n 1 15 rfl dX1_fittingCards_14 rfl ?_
        obtain ⟨r15, er15, hf⟩ := f_bnd hf
        refine Go.cV 18 [.int l4_3, .int a1] [] (C_X1_isFitting G l n S a0 l4_3 a1 r15 ha0 er15) rfl dX1_fittingCards_15 cv_X1_115 ha0 (by decide) (by decide) rfl (Nat.le_of_ble_eq_true rfl) ?_
        obtain ⟨K27, eK27, hf⟩ := f_jn hf
        have J27 : ∀ (j27_2 : Int32), K27 j27_2 = some r → GoM G l 4 (TmR G (some (.int r)) 97 S 0 0) mX1_fittingCards 27 [(0, .ref a0), (1, .int a1), (2, .int j27_2), (3, .int l4_3)] [] S := by
          intro j27_2 hf
          rw [eK27] at hf
          refine Go.inc 3 30 (1 : Int32) [(3, .int (l4_3 + (1 : Int32))), (0, .ref a0), (1, .int a1), (2, .int j27_2)] rfl dX1_fittingCards_27 rfl ci_1 (by decide) rfl ?_
          refine Go.goto 4 dX1_fittingCards_30 rfl ?_
          exact Go.sub [1, 2, 3, 0] [(0, .ref a0), (1, .int a1), (2, .int j27_2), (3, .int (l4_3 + (1 : Int32)))] rfl (ih j27_2 (l4_3 + (1 : Int32)) hf)
        clear eK27
        refine Go.if_eq 27 21 rfl dX1_fittingCards_18 rfl (fun hc => ?_) (fun hc => ?_)
        · replace hf := f_if hf hc
          exact J27 l4_2 hf
        · replace hf := f_el hf hc
          refine Go.iload_n 2 22 rfl dX1_fittingCards_21 rfl ?_
          refine Go.iconst (1 : Int32) 23 rfl dX1_fittingCards_22 ci_1 ?_
          refine Go.iload_n 3 24 rfl dX1_fittingCards_23 rfl ?_
          refine Go.ishl 25 rfl dX1_fittingCards_24 ?_
          refine Go.ior 26 rfl dX1_fittingCards_25 ?_
          obtain ⟨v26, ev26, hf⟩ := f_nm hf
          refine Go.topi v26 ev26 ?_
          refine Go.istore_n 27 [(2, .int v26), (0, .ref a0), (1, .int a1), (3, .int l4_3)] rfl dX1_fittingCards_26 (by decide) rfl ?_
          exact Go.sub [1, 2, 0, 3] [(0, .ref a0), (1, .int a1), (2, .int v26), (3, .int l4_3)] rfl (J27 v26 hf)
  exact Go.sub [2, 3, 1, 0] [(0, .ref a0), (1, .int a1), (2, .int (0 : Int32)), (3, .int (0 : Int32))] rfl (L4 n (0 : Int32) (0 : Int32) hf)
end
section
/-! written by program: X1_trueCards X1_questionsFitted X1_verdict X1_answeredWith X1_waysOfTruth X1_cardFact X1_questionFact X1_cardsOn X1_placesSaying X1_yesMeaning X1_markOf X1_placesAmong X1_firstAlike X1_pairsWith X1_cardsOfOn X1_homeOf X1_strayCards -/
theorem dX1_trueCards_0 : decode cX1_trueCards 0 = .ok (.aload_n 0, 1) := by decide +kernel
theorem dX1_trueCards_1 : decode cX1_trueCards 1 = .ok (.getfield 33, 3) := by decide +kernel
theorem dX1_trueCards_4 : decode cX1_trueCards 4 = .ok (.getfield 118, 3) := by decide +kernel
theorem dX1_trueCards_7 : decode cX1_trueCards 7 = .ok (.iload_n 1, 1) := by decide +kernel
theorem dX1_trueCards_8 : decode cX1_trueCards 8 = .ok (.iaload, 1) := by decide +kernel
theorem dX1_trueCards_9 : decode cX1_trueCards 9 = .ok (.istore_n 2, 1) := by decide +kernel
theorem dX1_trueCards_10 : decode cX1_trueCards 10 = .ok (.iconst 0, 1) := by decide +kernel
theorem dX1_trueCards_11 : decode cX1_trueCards 11 = .ok (.istore_n 3, 1) := by decide +kernel
theorem dX1_trueCards_12 : decode cX1_trueCards 12 = .ok (.iconst 0, 1) := by decide +kernel
theorem dX1_trueCards_13 : decode cX1_trueCards 13 = .ok (.istore 4, 2) := by decide +kernel
theorem dX1_trueCards_15 : decode cX1_trueCards 15 = .ok (.iload 4, 2) := by decide +kernel
theorem dX1_trueCards_17 : decode cX1_trueCards 17 = .ok (.aload_n 0, 1) := by decide +kernel
theorem dX1_trueCards_18 : decode cX1_trueCards 18 = .ok (.getfield 37, 3) := by decide +kernel
theorem dX1_trueCards_21 : decode cX1_trueCards 21 = .ok (.if_icmp .ge 42, 3) := by decide +kernel
theorem dX1_trueCards_24 : decode cX1_trueCards 24 = .ok (.aload_n 0, 1) := by decide +kernel
theorem dX1_trueCards_25 : decode cX1_trueCards 25 = .ok (.iload 4, 2) := by decide +kernel
theorem dX1_trueCards_27 : decode cX1_trueCards 27 = .ok (.iload_n 1, 1) := by decide +kernel
theorem dX1_trueCards_28 : decode cX1_trueCards 28 = .ok (.invokevirtual 115, 3) := by decide +kernel
theorem dX1_trueCards_31 : decode cX1_trueCards 31 = .ok (.ifCond .eq 26, 3) := by decide +kernel
theorem dX1_trueCards_34 : decode cX1_trueCards 34 = .ok (.iload_n 2, 1) := by decide +kernel
theorem dX1_trueCards_35 : decode cX1_trueCards 35 = .ok (.bipush (-9), 2) := by decide +kernel
theorem dX1_trueCards_37 : decode cX1_trueCards 37 = .ok (.if_icmp .eq 13, 3) := by decide +kernel
theorem dX1_trueCards_40 : decode cX1_trueCards 40 = .ok (.aload_n 0, 1) := by decide +kernel
theorem dX1_trueCards_41 : decode cX1_trueCards 41 = .ok (.iload 4, 2) := by decide +kernel
theorem dX1_trueCards_43 : decode cX1_trueCards 43 = .ok (.invokevirtual 108, 3) := by decide +kernel
theorem dX1_trueCards_46 : decode cX1_trueCards 46 = .ok (.iload_n 2, 1) := by decide +kernel
theorem dX1_trueCards_47 : decode cX1_trueCards 47 = .ok (.if_icmp .ne 10, 3) := by decide +kernel
theorem dX1_trueCards_50 : decode cX1_trueCards 50 = .ok (.iload_n 3, 1) := by decide +kernel
theorem dX1_trueCards_51 : decode cX1_trueCards 51 = .ok (.iconst 1, 1) := by decide +kernel
theorem dX1_trueCards_52 : decode cX1_trueCards 52 = .ok (.iload 4, 2) := by decide +kernel
theorem dX1_trueCards_54 : decode cX1_trueCards 54 = .ok (.ishl, 1) := by decide +kernel
theorem dX1_trueCards_55 : decode cX1_trueCards 55 = .ok (.ior, 1) := by decide +kernel
theorem dX1_trueCards_56 : decode cX1_trueCards 56 = .ok (.istore_n 3, 1) := by decide +kernel
theorem dX1_trueCards_57 : decode cX1_trueCards 57 = .ok (.iinc 4 1, 3) := by decide +kernel
theorem dX1_trueCards_60 : decode cX1_trueCards 60 = .ok (.goto (-45), 3) := by decide +kernel
theorem dX1_trueCards_63 : decode cX1_trueCards 63 = .ok (.iload_n 3, 1) := by decide +kernel
theorem dX1_trueCards_64 : decode cX1_trueCards 64 = .ok (.ireturn, 1) := by decide +kernel
def F_X1_trueCards_L15 (n : Nat) (S : aSt) (a0 : Nat) (a1 : Int32) (v9 : Int32) (K63 : Int32 → Option Int32) : Nat → Int32 → Int32 → Option Int32
  | 0, _, _ => none
  | fu + 1, l15_3, l15_4 =>
    if (S.1 a0 7) ≤ l15_4 then (K63 l15_3) else
    (F_X1_isFitting n S a0 l15_4 a1).bind fun r28 =>
    jn (fun (j57_3 : Int32) => (F_X1_trueCards_L15 n S a0 a1 v9 K63 fu j57_3 (l15_4 + (1 : Int32)) : Option Int32)) fun K57 =>
    if r28 = 0 then (K57 l15_3) else
    jn ((nm (l15_3 ||| ((1 : Int32) <<< (l15_4 &&& 31))) fun v56 =>
    K57 v56 : Option Int32)) fun K50 =>
    if v9 = (-9 : Int32) then (K50) else
    (F_X1_meaningOf n S a0 l15_4).bind fun r43 =>
    if r43 = v9 then (K50) else
    K57 l15_3
def F_X1_trueCards (n : Nat) (S : aSt) (a0 : Nat) (a1 : Int32) : Option Int32 :=
rfd (S.2.2 a0 6) 4 fun k1 =>
rfd (S.2.2 k1 2) 7 fun k4 =>
grd (inb a1 (SH k4).2) <|
nm (S.1 k4 a1.toNatClampNeg) fun v9 =>
jn (fun (x63_3 : Int32) => (some x63_3 : Option Int32)) fun K63 =>
F_X1_trueCards_L15 n S a0 a1 v9 K63 n (0 : Int32) (0 : Int32)
set_option maxHeartbeats 4000000 in
set_option maxRecDepth 100000 in
theorem C_X1_trueCards (G : aG) (l : Launch) (n : Nat) (S : aSt) (a0 : Nat) (a1 : Int32) (r : Int32) (ha0 : isT a0 0 = true) (hf : F_X1_trueCards n S a0 a1 = some r) : Ctr G l yX1_trueCards mX1_trueCards (rmM 4) 97 97 S [.ref a0, .int a1] (some (.int r)) S := by
  refine Ctr.of (by decide) rfl rfl (Nat.le_of_ble_eq_true rfl) [(0, .ref a0), (1, .int a1)] rfl ?_
  unfold F_X1_trueCards at hf
  refine Go.aload_n 0 1 rfl dX1_trueCards_0 rfl ?_
  obtain ⟨k1, qk1, hk1, hf⟩ := f_rfd hf
  refine Go.getR 4 rfl dX1_trueCards_1 fl_X1_33 rfl (isT_lt ha0) (isT_sh ha0) qk1 ?_
  obtain ⟨k4, qk4, hk4, hf⟩ := f_rfd hf
  refine Go.getR 7 rfl dX1_trueCards_4 fl_X1_118 rfl (isT_lt hk1) (isT_sh hk1) qk4 ?_
  refine Go.iload_n 1 8 rfl dX1_trueCards_7 rfl ?_
  obtain ⟨g8, hf⟩ := f_grd hf
  refine Go.iald 9 rfl dX1_trueCards_8 (isT_lt hk4) (isT_sh hk4) g8 ?_
  obtain ⟨v9, ev9, hf⟩ := f_nm hf
  refine Go.topi v9 ev9 ?_
  refine Go.istore_n 10 [(2, .int v9), (0, .ref a0), (1, .int a1)] rfl dX1_trueCards_9 (by decide) rfl ?_
  refine Go.iconst (0 : Int32) 11 rfl dX1_trueCards_10 ci_0 ?_
  refine Go.istore_n 12 [(3, .int (0 : Int32)), (2, .int v9), (0, .ref a0), (1, .int a1)] rfl dX1_trueCards_11 (by decide) rfl ?_
  refine Go.iconst (0 : Int32) 13 rfl dX1_trueCards_12 ci_0 ?_
  refine Go.istore 15 [(4, .int (0 : Int32)), (3, .int (0 : Int32)), (2, .int v9), (0, .ref a0), (1, .int a1)] rfl dX1_trueCards_13 (by decide) rfl ?_
  obtain ⟨K63, eK63, hf⟩ := f_jn hf
  have J63 : ∀ (x63_3 : Int32), K63 x63_3 = some r → GoM G l 4 (TmR G (some (.int r)) 97 S 0 0) mX1_trueCards 63 [(3, .int x63_3)] [] S := by
    intro x63_3 hf
    rw [eK63] at hf
    refine Go.iload_n 0 64 rfl dX1_trueCards_63 rfl ?_
    exact Go.ir rfl dX1_trueCards_64 hf
  clear eK63
  have L15 : ∀ (fu : Nat) (l15_3 : Int32) (l15_4 : Int32), F_X1_trueCards_L15 n S a0 a1 v9 K63 fu l15_3 l15_4 = some r → GoM G l 4 (TmR G (some (.int r)) 97 S 0 0) mX1_trueCards 15 [(0, .ref a0), (1, .int a1), (2, .int v9), (3, .int l15_3), (4, .int l15_4)] [] S := by
    intro fu
    induction fu with
    | zero => intro l15_3 l15_4 hf; rw [F_X1_trueCards_L15] at hf; cases hf
    | succ fu ih =>
      intro l15_3 l15_4 hf
      rw [F_X1_trueCards_L15] at hf
      refine Go.iload 4 17 rfl dX1_trueCards_15 rfl ?_
      refine Go.aload_n 0 18 rfl dX1_trueCards_17 rfl ?_
      refine Go.getI 21 rfl dX1_trueCards_18 fl_X1_37 rfl (isT_lt ha0) (isT_sh ha0) ?_
      refine Go.icmp_ge 63 24 rfl dX1_trueCards_21 rfl (fun hc => ?_) (fun hc => ?_)
      · replace hf := f_if hf hc
        exact Go.sub [3] [(3, .int l15_3)] rfl (J63 l15_3 hf)
      · replace hf := f_el hf hc
        refine Go.aload_n 0 25 rfl dX1_trueCards_24 rfl ?_
        refine Go.iload 4 27 rfl dX1_trueCards_25 rfl ?_
        refine Go.iload_n 1 28 rfl dX1_trueCards_27 rfl ?_
        obtain ⟨r28, er28, hf⟩ := f_bnd hf
        refine Go.cV 31 [.int l15_4, .int a1] [] (C_X1_isFitting G l n S a0 l15_4 a1 r28 ha0 er28) rfl dX1_trueCards_28 cv_X1_115 ha0 (by decide) (by decide) rfl (Nat.le_of_ble_eq_true rfl) ?_
        obtain ⟨K57, eK57, hf⟩ := f_jn hf
        have J57 : ∀ (j57_3 : Int32), K57 j57_3 = some r → GoM G l 4 (TmR G (some (.int r)) 97 S 0 0) mX1_trueCards 57 [(0, .ref a0), (1, .int a1), (2, .int v9), (3, .int j57_3), (4, .int l15_4)] [] S := by
          intro j57_3 hf
          rw [eK57] at hf
          refine Go.inc 4 60 (1 : Int32) [(4, .int (l15_4 + (1 : Int32))), (0, .ref a0), (1, .int a1), (2, .int v9), (3, .int j57_3)] rfl dX1_trueCards_57 rfl ci_1 (by decide) rfl ?_
          refine Go.goto 15 dX1_trueCards_60 rfl ?_
          exact Go.sub [1, 2, 3, 4, 0] [(0, .ref a0), (1, .int a1), (2, .int v9), (3, .int j57_3), (4, .int (l15_4 + (1 : Int32)))] rfl (ih j57_3 (l15_4 + (1 : Int32)) hf)
        clear eK57
        refine Go.if_eq 57 34 rfl dX1_trueCards_31 rfl (fun hc => ?_) (fun hc => ?_)
        · replace hf := f_if hf hc
          exact J57 l15_3 hf
        · replace hf := f_el hf hc
          refine Go.iload_n 2 35 rfl dX1_trueCards_34 rfl ?_
          refine Go.bipush (-9 : Int32) 37 rfl dX1_trueCards_35 cb_m9 ?_
          obtain ⟨K50, eK50, hf⟩ := f_jn hf
          have J50 : K50 = some r → GoM G l 4 (TmR G (some (.int r)) 97 S 0 0) mX1_trueCards 50 [(0, .ref a0), (1, .int a1), (2, .int v9), (3, .int l15_3), (4, .int l15_4)] [] S := by
            intro hf
            rw [eK50] at hf
            refine Go.iload_n 3 51 rfl dX1_trueCards_50 rfl ?_
            refine Go.iconst (1 : Int32) 52 rfl dX1_trueCards_51 ci_1 ?_
            refine Go.iload 4 54 rfl dX1_trueCards_52 rfl ?_
            refine Go.ishl 55 rfl dX1_trueCards_54 ?_
            refine Go.ior 56 rfl dX1_trueCards_55 ?_
            obtain ⟨v56, ev56, hf⟩ := f_nm hf
            refine Go.topi v56 ev56 ?_
            refine Go.istore_n 57 [(3, .int v56), (0, .ref a0), (1, .int a1), (2, .int v9), (4, .int l15_4)] rfl dX1_trueCards_56 (by decide) rfl ?_
            exact Go.sub [1, 2, 3, 0, 4] [(0, .ref a0), (1, .int a1), (2, .int v9), (3, .int v56), (4, .int l15_4)] rfl (J57 v56 hf)
          clear eK50
          refine Go.icmp_eq 50 40 rfl dX1_trueCards_37 rfl (fun hc => ?_) (fun hc => ?_)
          · replace hf := f_if hf hc
            exact J50 hf
          · replace hf := f_el hf hc
            refine Go.aload_n 0 41 rfl dX1_trueCards_40 rfl ?_
            refine Go.iload 4 43 rfl dX1_trueCards_41 rfl ?_
            obtain ⟨r43, er43, hf⟩ := f_bnd hf
            refine Go.cV 46 [.int l15_4] [] (C_X1_meaningOf G l n S a0 l15_4 r43 ha0 er43) rfl dX1_trueCards_43 cv_X1_108 ha0 (by decide) (by decide) rfl (Nat.le_of_ble_eq_true rfl) ?_
            refine Go.iload_n 2 47 rfl dX1_trueCards_46 rfl ?_
            refine Go.icmp_ne 57 50 rfl dX1_trueCards_47 rfl (fun hc => ?_) (fun hc => ?_)
            · replace hf := f_el hf hc
              exact J57 l15_3 hf
            · replace hf := f_if hf hc
              exact J50 hf
  exact Go.sub [3, 4, 2, 1, 0] [(0, .ref a0), (1, .int a1), (2, .int v9), (3, .int (0 : Int32)), (4, .int (0 : Int32))] rfl (L15 n (0 : Int32) (0 : Int32) hf)
theorem dX1_questionsFitted_0 : decode cX1_questionsFitted 0 = .ok (.iconst 0, 1) := by decide +kernel
theorem dX1_questionsFitted_1 : decode cX1_questionsFitted 1 = .ok (.istore_n 2, 1) := by decide +kernel
theorem dX1_questionsFitted_2 : decode cX1_questionsFitted 2 = .ok (.iconst 0, 1) := by decide +kernel
theorem dX1_questionsFitted_3 : decode cX1_questionsFitted 3 = .ok (.istore_n 3, 1) := by decide +kernel
theorem dX1_questionsFitted_4 : decode cX1_questionsFitted 4 = .ok (.iload_n 3, 1) := by decide +kernel
theorem dX1_questionsFitted_5 : decode cX1_questionsFitted 5 = .ok (.aload_n 0, 1) := by decide +kernel
theorem dX1_questionsFitted_6 : decode cX1_questionsFitted 6 = .ok (.getfield 41, 3) := by decide +kernel
theorem dX1_questionsFitted_9 : decode cX1_questionsFitted 9 = .ok (.if_icmp .ge 21, 3) := by decide +kernel
theorem dX1_questionsFitted_12 : decode cX1_questionsFitted 12 = .ok (.aload_n 0, 1) := by decide +kernel
theorem dX1_questionsFitted_13 : decode cX1_questionsFitted 13 = .ok (.iload_n 1, 1) := by decide +kernel
theorem dX1_questionsFitted_14 : decode cX1_questionsFitted 14 = .ok (.iload_n 3, 1) := by decide +kernel
theorem dX1_questionsFitted_15 : decode cX1_questionsFitted 15 = .ok (.invokevirtual 115, 3) := by decide +kernel
theorem dX1_questionsFitted_18 : decode cX1_questionsFitted 18 = .ok (.ifCond .eq 6, 3) := by decide +kernel
theorem dX1_questionsFitted_21 : decode cX1_questionsFitted 21 = .ok (.iinc 2 1, 3) := by decide +kernel
theorem dX1_questionsFitted_24 : decode cX1_questionsFitted 24 = .ok (.iinc 3 1, 3) := by decide +kernel
theorem dX1_questionsFitted_27 : decode cX1_questionsFitted 27 = .ok (.goto (-23), 3) := by decide +kernel
theorem dX1_questionsFitted_30 : decode cX1_questionsFitted 30 = .ok (.iload_n 2, 1) := by decide +kernel
theorem dX1_questionsFitted_31 : decode cX1_questionsFitted 31 = .ok (.ireturn, 1) := by decide +kernel
def F_X1_questionsFitted_L4 (n : Nat) (S : aSt) (a0 : Nat) (a1 : Int32) (K30 : Int32 → Option Int32) : Nat → Int32 → Int32 → Option Int32
  | 0, _, _ => none
  | fu + 1, l4_2, l4_3 =>
    if (S.1 a0 8) ≤ l4_3 then (K30 l4_2) else
    (F_X1_isFitting n S a0 a1 l4_3).bind fun r15 =>
    jn (fun (j24_2 : Int32) => (F_X1_questionsFitted_L4 n S a0 a1 K30 fu j24_2 (l4_3 + (1 : Int32)) : Option Int32)) fun K24 =>
    if r15 = 0 then (K24 l4_2) else
    K24 (l4_2 + (1 : Int32))
def F_X1_questionsFitted (n : Nat) (S : aSt) (a0 : Nat) (a1 : Int32) : Option Int32 :=
jn (fun (x30_2 : Int32) => (some x30_2 : Option Int32)) fun K30 =>
F_X1_questionsFitted_L4 n S a0 a1 K30 n (0 : Int32) (0 : Int32)
set_option maxHeartbeats 4000000 in
set_option maxRecDepth 100000 in
theorem C_X1_questionsFitted (G : aG) (l : Launch) (n : Nat) (S : aSt) (a0 : Nat) (a1 : Int32) (r : Int32) (ha0 : isT a0 0 = true) (hf : F_X1_questionsFitted n S a0 a1 = some r) : Ctr G l yX1_questionsFitted mX1_questionsFitted (rmM 4) 97 97 S [.ref a0, .int a1] (some (.int r)) S := by
  refine Ctr.of (by decide) rfl rfl (Nat.le_of_ble_eq_true rfl) [(0, .ref a0), (1, .int a1)] rfl ?_
  unfold F_X1_questionsFitted at hf
  refine Go.iconst (0 : Int32) 1 rfl dX1_questionsFitted_0 ci_0 ?_
  refine Go.istore_n 2 [(2, .int (0 : Int32)), (0, .ref a0), (1, .int a1)] rfl dX1_questionsFitted_1 (by decide) rfl ?_
  refine Go.iconst (0 : Int32) 3 rfl dX1_questionsFitted_2 ci_0 ?_
  refine Go.istore_n 4 [(3, .int (0 : Int32)), (2, .int (0 : Int32)), (0, .ref a0), (1, .int a1)] rfl dX1_questionsFitted_3 (by decide) rfl ?_
  obtain ⟨K30, eK30, hf⟩ := f_jn hf
  have J30 : ∀ (x30_2 : Int32), K30 x30_2 = some r → GoM G l 4 (TmR G (some (.int r)) 97 S 0 0) mX1_questionsFitted 30 [(2, .int x30_2)] [] S := by
    intro x30_2 hf
    rw [eK30] at hf
    refine Go.iload_n 0 31 rfl dX1_questionsFitted_30 rfl ?_
    exact Go.ir rfl dX1_questionsFitted_31 hf
  clear eK30
  have L4 : ∀ (fu : Nat) (l4_2 : Int32) (l4_3 : Int32), F_X1_questionsFitted_L4 n S a0 a1 K30 fu l4_2 l4_3 = some r → GoM G l 4 (TmR G (some (.int r)) 97 S 0 0) mX1_questionsFitted 4 [(0, .ref a0), (1, .int a1), (2, .int l4_2), (3, .int l4_3)] [] S := by
    intro fu
    induction fu with
    | zero => intro l4_2 l4_3 hf; rw [F_X1_questionsFitted_L4] at hf; cases hf
    | succ fu ih =>
      intro l4_2 l4_3 hf
      rw [F_X1_questionsFitted_L4] at hf
      refine Go.iload_n 3 5 rfl dX1_questionsFitted_4 rfl ?_
      refine Go.aload_n 0 6 rfl dX1_questionsFitted_5 rfl ?_
      refine Go.getI 9 rfl dX1_questionsFitted_6 fl_X1_41 rfl (isT_lt ha0) (isT_sh ha0) ?_
      refine Go.icmp_ge 30 12 rfl dX1_questionsFitted_9 rfl (fun hc => ?_) (fun hc => ?_)
      · replace hf := f_if hf hc
        exact Go.sub [2] [(2, .int l4_2)] rfl (J30 l4_2 hf)
      · replace hf := f_el hf hc
        refine Go.aload_n 0 13 rfl dX1_questionsFitted_12 rfl ?_
        refine Go.iload_n 1 14 rfl dX1_questionsFitted_13 rfl ?_
        refine Go.iload_n 3 15 rfl dX1_questionsFitted_14 rfl ?_
        obtain ⟨r15, er15, hf⟩ := f_bnd hf
        refine Go.cV 18 [.int a1, .int l4_3] [] (C_X1_isFitting G l n S a0 a1 l4_3 r15 ha0 er15) rfl dX1_questionsFitted_15 cv_X1_115 ha0 (by decide) (by decide) rfl (Nat.le_of_ble_eq_true rfl) ?_
        obtain ⟨K24, eK24, hf⟩ := f_jn hf
        have J24 : ∀ (j24_2 : Int32), K24 j24_2 = some r → GoM G l 4 (TmR G (some (.int r)) 97 S 0 0) mX1_questionsFitted 24 [(0, .ref a0), (1, .int a1), (2, .int j24_2), (3, .int l4_3)] [] S := by
          intro j24_2 hf
          rw [eK24] at hf
          refine Go.inc 3 27 (1 : Int32) [(3, .int (l4_3 + (1 : Int32))), (0, .ref a0), (1, .int a1), (2, .int j24_2)] rfl dX1_questionsFitted_24 rfl ci_1 (by decide) rfl ?_
          refine Go.goto 4 dX1_questionsFitted_27 rfl ?_
          exact Go.sub [1, 2, 3, 0] [(0, .ref a0), (1, .int a1), (2, .int j24_2), (3, .int (l4_3 + (1 : Int32)))] rfl (ih j24_2 (l4_3 + (1 : Int32)) hf)
        clear eK24
        refine Go.if_eq 24 21 rfl dX1_questionsFitted_18 rfl (fun hc => ?_) (fun hc => ?_)
        · replace hf := f_if hf hc
          exact J24 l4_2 hf
        · replace hf := f_el hf hc
          refine Go.inc 2 24 (1 : Int32) [(2, .int (l4_2 + (1 : Int32))), (0, .ref a0), (1, .int a1), (3, .int l4_3)] rfl dX1_questionsFitted_21 rfl ci_1 (by decide) rfl ?_
          exact Go.sub [1, 2, 0, 3] [(0, .ref a0), (1, .int a1), (2, .int (l4_2 + (1 : Int32))), (3, .int l4_3)] rfl (J24 (l4_2 + (1 : Int32)) hf)
  exact Go.sub [2, 3, 1, 0] [(0, .ref a0), (1, .int a1), (2, .int (0 : Int32)), (3, .int (0 : Int32))] rfl (L4 n (0 : Int32) (0 : Int32) hf)
theorem dX1_verdict_0 : decode cX1_verdict 0 = .ok (.aload_n 0, 1) := by decide +kernel
theorem dX1_verdict_1 : decode cX1_verdict 1 = .ok (.iload_n 1, 1) := by decide +kernel
theorem dX1_verdict_2 : decode cX1_verdict 2 = .ok (.invokevirtual 101, 3) := by decide +kernel
theorem dX1_verdict_5 : decode cX1_verdict 5 = .ok (.ifCond .ne 17, 3) := by decide +kernel
theorem dX1_verdict_8 : decode cX1_verdict 8 = .ok (.aload_n 0, 1) := by decide +kernel
theorem dX1_verdict_9 : decode cX1_verdict 9 = .ok (.getfield 33, 3) := by decide +kernel
theorem dX1_verdict_12 : decode cX1_verdict 12 = .ok (.getfield 118, 3) := by decide +kernel
theorem dX1_verdict_15 : decode cX1_verdict 15 = .ok (.iload_n 1, 1) := by decide +kernel
theorem dX1_verdict_16 : decode cX1_verdict 16 = .ok (.iaload, 1) := by decide +kernel
theorem dX1_verdict_17 : decode cX1_verdict 17 = .ok (.bipush (-9), 2) := by decide +kernel
theorem dX1_verdict_19 : decode cX1_verdict 19 = .ok (.if_icmp .ne 5, 3) := by decide +kernel
theorem dX1_verdict_22 : decode cX1_verdict 22 = .ok (.iconst 2, 1) := by decide +kernel
theorem dX1_verdict_23 : decode cX1_verdict 23 = .ok (.ireturn, 1) := by decide +kernel
theorem dX1_verdict_24 : decode cX1_verdict 24 = .ok (.aload_n 0, 1) := by decide +kernel
theorem dX1_verdict_25 : decode cX1_verdict 25 = .ok (.aload_n 0, 1) := by decide +kernel
theorem dX1_verdict_26 : decode cX1_verdict 26 = .ok (.getfield 33, 3) := by decide +kernel
theorem dX1_verdict_29 : decode cX1_verdict 29 = .ok (.getfield 94, 3) := by decide +kernel
theorem dX1_verdict_32 : decode cX1_verdict 32 = .ok (.iload_n 1, 1) := by decide +kernel
theorem dX1_verdict_33 : decode cX1_verdict 33 = .ok (.iaload, 1) := by decide +kernel
theorem dX1_verdict_34 : decode cX1_verdict 34 = .ok (.invokevirtual 108, 3) := by decide +kernel
theorem dX1_verdict_37 : decode cX1_verdict 37 = .ok (.aload_n 0, 1) := by decide +kernel
theorem dX1_verdict_38 : decode cX1_verdict 38 = .ok (.getfield 33, 3) := by decide +kernel
theorem dX1_verdict_41 : decode cX1_verdict 41 = .ok (.getfield 118, 3) := by decide +kernel
theorem dX1_verdict_44 : decode cX1_verdict 44 = .ok (.iload_n 1, 1) := by decide +kernel
theorem dX1_verdict_45 : decode cX1_verdict 45 = .ok (.iaload, 1) := by decide +kernel
theorem dX1_verdict_46 : decode cX1_verdict 46 = .ok (.if_icmp .ne 7, 3) := by decide +kernel
theorem dX1_verdict_49 : decode cX1_verdict 49 = .ok (.iconst 1, 1) := by decide +kernel
theorem dX1_verdict_50 : decode cX1_verdict 50 = .ok (.goto 4, 3) := by decide +kernel
theorem dX1_verdict_53 : decode cX1_verdict 53 = .ok (.iconst 0, 1) := by decide +kernel
theorem dX1_verdict_54 : decode cX1_verdict 54 = .ok (.ireturn, 1) := by decide +kernel
def F_X1_verdict (n : Nat) (S : aSt) (a0 : Nat) (a1 : Int32) : Option Int32 :=
(F_X1_isFreeQuestion n S a0 a1).bind fun r2 =>
if r2 = 0 then (rfd (S.2.2 a0 6) 4 fun k9 =>
rfd (S.2.2 k9 2) 7 fun k12 =>
grd (inb a1 (SH k12).2) <|
if (S.1 k12 a1.toNatClampNeg) = (-9 : Int32) then (some (2 : Int32)) else
rfd (S.2.2 k9 3) 7 fun k29 =>
grd (inb a1 (SH k29).2) <|
(F_X1_meaningOf n S a0 (S.1 k29 a1.toNatClampNeg)).bind fun r34 =>
grd (inb a1 (SH k12).2) <|
if r34 = (S.1 k12 a1.toNatClampNeg) then (some (1 : Int32)) else
some (0 : Int32)) else
some (2 : Int32)
set_option maxHeartbeats 4000000 in
set_option maxRecDepth 100000 in
theorem C_X1_verdict (G : aG) (l : Launch) (n : Nat) (S : aSt) (a0 : Nat) (a1 : Int32) (r : Int32) (ha0 : isT a0 0 = true) (hf : F_X1_verdict n S a0 a1 = some r) : Ctr G l yX1_verdict mX1_verdict (rmM 3) 97 97 S [.ref a0, .int a1] (some (.int r)) S := by
  refine Ctr.of (by decide) rfl rfl (Nat.le_of_ble_eq_true rfl) [(0, .ref a0), (1, .int a1)] rfl ?_
  unfold F_X1_verdict at hf
  refine Go.aload_n 0 1 rfl dX1_verdict_0 rfl ?_
  refine Go.iload_n 1 2 rfl dX1_verdict_1 rfl ?_
  obtain ⟨r2, er2, hf⟩ := f_bnd hf
  refine Go.cV 5 [.int a1] [] (C_X1_isFreeQuestion G l n S a0 a1 r2 ha0 er2) rfl dX1_verdict_2 cv_X1_101 ha0 (by decide) (by decide) rfl (Nat.le_of_ble_eq_true rfl) ?_
  refine Go.if_ne 22 8 rfl dX1_verdict_5 rfl (fun hc => ?_) (fun hc => ?_)
  · replace hf := f_el hf hc
    refine Go.iconst (2 : Int32) 23 rfl dX1_verdict_22 ci_2 ?_
    exact Go.ir rfl dX1_verdict_23 hf
  · replace hf := f_if hf hc
    refine Go.aload_n 0 9 rfl dX1_verdict_8 rfl ?_
    obtain ⟨k9, qk9, hk9, hf⟩ := f_rfd hf
    refine Go.getR 12 rfl dX1_verdict_9 fl_X1_33 rfl (isT_lt ha0) (isT_sh ha0) qk9 ?_
    obtain ⟨k12, qk12, hk12, hf⟩ := f_rfd hf
    refine Go.getR 15 rfl dX1_verdict_12 fl_X1_118 rfl (isT_lt hk9) (isT_sh hk9) qk12 ?_
    refine Go.iload_n 1 16 rfl dX1_verdict_15 rfl ?_
    obtain ⟨g16, hf⟩ := f_grd hf
    refine Go.iald 17 rfl dX1_verdict_16 (isT_lt hk12) (isT_sh hk12) g16 ?_
    refine Go.bipush (-9 : Int32) 19 rfl dX1_verdict_17 cb_m9 ?_
    refine Go.icmp_ne 24 22 rfl dX1_verdict_19 rfl (fun hc => ?_) (fun hc => ?_)
    · replace hf := f_el hf hc
      refine Go.aload_n 0 25 rfl dX1_verdict_24 rfl ?_
      refine Go.aload_n 0 26 rfl dX1_verdict_25 rfl ?_
      refine Go.getR 29 rfl dX1_verdict_26 fl_X1_33 rfl (isT_lt ha0) (isT_sh ha0) qk9 ?_
      obtain ⟨k29, qk29, hk29, hf⟩ := f_rfd hf
      refine Go.getR 32 rfl dX1_verdict_29 fl_X1_94 rfl (isT_lt hk9) (isT_sh hk9) qk29 ?_
      refine Go.iload_n 1 33 rfl dX1_verdict_32 rfl ?_
      obtain ⟨g33, hf⟩ := f_grd hf
      refine Go.iald 34 rfl dX1_verdict_33 (isT_lt hk29) (isT_sh hk29) g33 ?_
      obtain ⟨r34, er34, hf⟩ := f_bnd hf
      refine Go.cV 37 [.int (S.1 k29 a1.toNatClampNeg)] [] (C_X1_meaningOf G l n S a0 (S.1 k29 a1.toNatClampNeg) r34 ha0 er34) rfl dX1_verdict_34 cv_X1_108 ha0 (by decide) (by decide) rfl (Nat.le_of_ble_eq_true rfl) ?_
      refine Go.aload_n 0 38 rfl dX1_verdict_37 rfl ?_
      refine Go.getR 41 rfl dX1_verdict_38 fl_X1_33 rfl (isT_lt ha0) (isT_sh ha0) qk9 ?_
      refine Go.getR 44 rfl dX1_verdict_41 fl_X1_118 rfl (isT_lt hk9) (isT_sh hk9) qk12 ?_
      refine Go.iload_n 1 45 rfl dX1_verdict_44 rfl ?_
      obtain ⟨g45, hf⟩ := f_grd hf
      refine Go.iald 46 rfl dX1_verdict_45 (isT_lt hk12) (isT_sh hk12) g45 ?_
      refine Go.icmp_ne 53 49 rfl dX1_verdict_46 rfl (fun hc => ?_) (fun hc => ?_)
      · replace hf := f_el hf hc
        refine Go.iconst (0 : Int32) 54 rfl dX1_verdict_53 ci_0 ?_
        exact Go.ir rfl dX1_verdict_54 hf
      · replace hf := f_if hf hc
        refine Go.iconst (1 : Int32) 50 rfl dX1_verdict_49 ci_1 ?_
        refine Go.goto 54 dX1_verdict_50 rfl ?_
        exact Go.ir rfl dX1_verdict_54 hf
    · replace hf := f_if hf hc
      refine Go.iconst (2 : Int32) 23 rfl dX1_verdict_22 ci_2 ?_
      exact Go.ir rfl dX1_verdict_23 hf
theorem dX1_answeredWith_0 : decode cX1_answeredWith 0 = .ok (.iconst 0, 1) := by decide +kernel
theorem dX1_answeredWith_1 : decode cX1_answeredWith 1 = .ok (.istore_n 2, 1) := by decide +kernel
theorem dX1_answeredWith_2 : decode cX1_answeredWith 2 = .ok (.iconst 0, 1) := by decide +kernel
theorem dX1_answeredWith_3 : decode cX1_answeredWith 3 = .ok (.istore_n 3, 1) := by decide +kernel
theorem dX1_answeredWith_4 : decode cX1_answeredWith 4 = .ok (.iload_n 3, 1) := by decide +kernel
theorem dX1_answeredWith_5 : decode cX1_answeredWith 5 = .ok (.aload_n 0, 1) := by decide +kernel
theorem dX1_answeredWith_6 : decode cX1_answeredWith 6 = .ok (.getfield 41, 3) := by decide +kernel
theorem dX1_answeredWith_9 : decode cX1_answeredWith 9 = .ok (.if_icmp .ge 21, 3) := by decide +kernel
theorem dX1_answeredWith_12 : decode cX1_answeredWith 12 = .ok (.aload_n 0, 1) := by decide +kernel
theorem dX1_answeredWith_13 : decode cX1_answeredWith 13 = .ok (.iload_n 3, 1) := by decide +kernel
theorem dX1_answeredWith_14 : decode cX1_answeredWith 14 = .ok (.invokevirtual 121, 3) := by decide +kernel
theorem dX1_answeredWith_17 : decode cX1_answeredWith 17 = .ok (.iload_n 1, 1) := by decide +kernel
theorem dX1_answeredWith_18 : decode cX1_answeredWith 18 = .ok (.if_icmp .ne 6, 3) := by decide +kernel
theorem dX1_answeredWith_21 : decode cX1_answeredWith 21 = .ok (.iinc 2 1, 3) := by decide +kernel
theorem dX1_answeredWith_24 : decode cX1_answeredWith 24 = .ok (.iinc 3 1, 3) := by decide +kernel
theorem dX1_answeredWith_27 : decode cX1_answeredWith 27 = .ok (.goto (-23), 3) := by decide +kernel
theorem dX1_answeredWith_30 : decode cX1_answeredWith 30 = .ok (.iload_n 2, 1) := by decide +kernel
theorem dX1_answeredWith_31 : decode cX1_answeredWith 31 = .ok (.ireturn, 1) := by decide +kernel
def F_X1_answeredWith_L4 (n : Nat) (S : aSt) (a0 : Nat) (a1 : Int32) (K30 : Int32 → Option Int32) : Nat → Int32 → Int32 → Option Int32
  | 0, _, _ => none
  | fu + 1, l4_2, l4_3 =>
    if (S.1 a0 8) ≤ l4_3 then (K30 l4_2) else
    (F_X1_verdict n S a0 l4_3).bind fun r14 =>
    jn (fun (j24_2 : Int32) => (F_X1_answeredWith_L4 n S a0 a1 K30 fu j24_2 (l4_3 + (1 : Int32)) : Option Int32)) fun K24 =>
    if r14 = a1 then (K24 (l4_2 + (1 : Int32))) else
    K24 l4_2
def F_X1_answeredWith (n : Nat) (S : aSt) (a0 : Nat) (a1 : Int32) : Option Int32 :=
jn (fun (x30_2 : Int32) => (some x30_2 : Option Int32)) fun K30 =>
F_X1_answeredWith_L4 n S a0 a1 K30 n (0 : Int32) (0 : Int32)
set_option maxHeartbeats 4000000 in
set_option maxRecDepth 100000 in
theorem C_X1_answeredWith (G : aG) (l : Launch) (n : Nat) (S : aSt) (a0 : Nat) (a1 : Int32) (r : Int32) (ha0 : isT a0 0 = true) (hf : F_X1_answeredWith n S a0 a1 = some r) : Ctr G l yX1_answeredWith mX1_answeredWith (rmM 4) 97 97 S [.ref a0, .int a1] (some (.int r)) S := by
  refine Ctr.of (by decide) rfl rfl (Nat.le_of_ble_eq_true rfl) [(0, .ref a0), (1, .int a1)] rfl ?_
  unfold F_X1_answeredWith at hf
  refine Go.iconst (0 : Int32) 1 rfl dX1_answeredWith_0 ci_0 ?_
  refine Go.istore_n 2 [(2, .int (0 : Int32)), (0, .ref a0), (1, .int a1)] rfl dX1_answeredWith_1 (by decide) rfl ?_
  refine Go.iconst (0 : Int32) 3 rfl dX1_answeredWith_2 ci_0 ?_
  refine Go.istore_n 4 [(3, .int (0 : Int32)), (2, .int (0 : Int32)), (0, .ref a0), (1, .int a1)] rfl dX1_answeredWith_3 (by decide) rfl ?_
  obtain ⟨K30, eK30, hf⟩ := f_jn hf
  have J30 : ∀ (x30_2 : Int32), K30 x30_2 = some r → GoM G l 4 (TmR G (some (.int r)) 97 S 0 0) mX1_answeredWith 30 [(2, .int x30_2)] [] S := by
    intro x30_2 hf
    rw [eK30] at hf
    refine Go.iload_n 0 31 rfl dX1_answeredWith_30 rfl ?_
    exact Go.ir rfl dX1_answeredWith_31 hf
  clear eK30
  have L4 : ∀ (fu : Nat) (l4_2 : Int32) (l4_3 : Int32), F_X1_answeredWith_L4 n S a0 a1 K30 fu l4_2 l4_3 = some r → GoM G l 4 (TmR G (some (.int r)) 97 S 0 0) mX1_answeredWith 4 [(0, .ref a0), (1, .int a1), (2, .int l4_2), (3, .int l4_3)] [] S := by
    intro fu
    induction fu with
    | zero => intro l4_2 l4_3 hf; rw [F_X1_answeredWith_L4] at hf; cases hf
    | succ fu ih =>
      intro l4_2 l4_3 hf
      rw [F_X1_answeredWith_L4] at hf
      refine Go.iload_n 3 5 rfl dX1_answeredWith_4 rfl ?_
      refine Go.aload_n 0 6 rfl dX1_answeredWith_5 rfl ?_
      refine Go.getI 9 rfl dX1_answeredWith_6 fl_X1_41 rfl (isT_lt ha0) (isT_sh ha0) ?_
      refine Go.icmp_ge 30 12 rfl dX1_answeredWith_9 rfl (fun hc => ?_) (fun hc => ?_)
      · replace hf := f_if hf hc
        exact Go.sub [2] [(2, .int l4_2)] rfl (J30 l4_2 hf)
      · replace hf := f_el hf hc
        refine Go.aload_n 0 13 rfl dX1_answeredWith_12 rfl ?_
        refine Go.iload_n 3 14 rfl dX1_answeredWith_13 rfl ?_
        obtain ⟨r14, er14, hf⟩ := f_bnd hf
        refine Go.cV 17 [.int l4_3] [] (C_X1_verdict G l n S a0 l4_3 r14 ha0 er14) rfl dX1_answeredWith_14 cv_X1_121 ha0 (by decide) (by decide) rfl (Nat.le_of_ble_eq_true rfl) ?_
        refine Go.iload_n 1 18 rfl dX1_answeredWith_17 rfl ?_
        obtain ⟨K24, eK24, hf⟩ := f_jn hf
        have J24 : ∀ (j24_2 : Int32), K24 j24_2 = some r → GoM G l 4 (TmR G (some (.int r)) 97 S 0 0) mX1_answeredWith 24 [(0, .ref a0), (1, .int a1), (2, .int j24_2), (3, .int l4_3)] [] S := by
          intro j24_2 hf
          rw [eK24] at hf
          refine Go.inc 3 27 (1 : Int32) [(3, .int (l4_3 + (1 : Int32))), (0, .ref a0), (1, .int a1), (2, .int j24_2)] rfl dX1_answeredWith_24 rfl ci_1 (by decide) rfl ?_
          refine Go.goto 4 dX1_answeredWith_27 rfl ?_
          exact Go.sub [1, 2, 3, 0] [(0, .ref a0), (1, .int a1), (2, .int j24_2), (3, .int (l4_3 + (1 : Int32)))] rfl (ih j24_2 (l4_3 + (1 : Int32)) hf)
        clear eK24
        refine Go.icmp_ne 24 21 rfl dX1_answeredWith_18 rfl (fun hc => ?_) (fun hc => ?_)
        · replace hf := f_el hf hc
          exact J24 l4_2 hf
        · replace hf := f_if hf hc
          refine Go.inc 2 24 (1 : Int32) [(2, .int (l4_2 + (1 : Int32))), (0, .ref a0), (1, .int a1), (3, .int l4_3)] rfl dX1_answeredWith_21 rfl ci_1 (by decide) rfl ?_
          exact Go.sub [1, 2, 0, 3] [(0, .ref a0), (1, .int a1), (2, .int (l4_2 + (1 : Int32))), (3, .int l4_3)] rfl (J24 (l4_2 + (1 : Int32)) hf)
  exact Go.sub [2, 3, 1, 0] [(0, .ref a0), (1, .int a1), (2, .int (0 : Int32)), (3, .int (0 : Int32))] rfl (L4 n (0 : Int32) (0 : Int32) hf)
theorem dX1_waysOfTruth_0 : decode cX1_waysOfTruth 0 = .ok (.aload_n 0, 1) := by decide +kernel
theorem dX1_waysOfTruth_1 : decode cX1_waysOfTruth 1 = .ok (.getfield 33, 3) := by decide +kernel
theorem dX1_waysOfTruth_4 : decode cX1_waysOfTruth 4 = .ok (.getfield 118, 3) := by decide +kernel
theorem dX1_waysOfTruth_7 : decode cX1_waysOfTruth 7 = .ok (.iload_n 1, 1) := by decide +kernel
theorem dX1_waysOfTruth_8 : decode cX1_waysOfTruth 8 = .ok (.iaload, 1) := by decide +kernel
theorem dX1_waysOfTruth_9 : decode cX1_waysOfTruth 9 = .ok (.bipush (-9), 2) := by decide +kernel
theorem dX1_waysOfTruth_11 : decode cX1_waysOfTruth 11 = .ok (.if_icmp .eq 17, 3) := by decide +kernel
theorem dX1_waysOfTruth_14 : decode cX1_waysOfTruth 14 = .ok (.aload_n 0, 1) := by decide +kernel
theorem dX1_waysOfTruth_15 : decode cX1_waysOfTruth 15 = .ok (.iload_n 1, 1) := by decide +kernel
theorem dX1_waysOfTruth_16 : decode cX1_waysOfTruth 16 = .ok (.invokevirtual 121, 3) := by decide +kernel
theorem dX1_waysOfTruth_19 : decode cX1_waysOfTruth 19 = .ok (.ifCond .ne 7, 3) := by decide +kernel
theorem dX1_waysOfTruth_22 : decode cX1_waysOfTruth 22 = .ok (.iconst 0, 1) := by decide +kernel
theorem dX1_waysOfTruth_23 : decode cX1_waysOfTruth 23 = .ok (.goto 4, 3) := by decide +kernel
theorem dX1_waysOfTruth_26 : decode cX1_waysOfTruth 26 = .ok (.iconst 1, 1) := by decide +kernel
theorem dX1_waysOfTruth_27 : decode cX1_waysOfTruth 27 = .ok (.ireturn, 1) := by decide +kernel
theorem dX1_waysOfTruth_28 : decode cX1_waysOfTruth 28 = .ok (.aload_n 0, 1) := by decide +kernel
theorem dX1_waysOfTruth_29 : decode cX1_waysOfTruth 29 = .ok (.iload_n 1, 1) := by decide +kernel
theorem dX1_waysOfTruth_30 : decode cX1_waysOfTruth 30 = .ok (.invokevirtual 101, 3) := by decide +kernel
theorem dX1_waysOfTruth_33 : decode cX1_waysOfTruth 33 = .ok (.ifCond .eq 19, 3) := by decide +kernel
theorem dX1_waysOfTruth_36 : decode cX1_waysOfTruth 36 = .ok (.aload_n 0, 1) := by decide +kernel
theorem dX1_waysOfTruth_37 : decode cX1_waysOfTruth 37 = .ok (.getfield 24, 3) := by decide +kernel
theorem dX1_waysOfTruth_40 : decode cX1_waysOfTruth 40 = .ok (.iload_n 1, 1) := by decide +kernel
theorem dX1_waysOfTruth_41 : decode cX1_waysOfTruth 41 = .ok (.iaload, 1) := by decide +kernel
theorem dX1_waysOfTruth_42 : decode cX1_waysOfTruth 42 = .ok (.aload_n 0, 1) := by decide +kernel
theorem dX1_waysOfTruth_43 : decode cX1_waysOfTruth 43 = .ok (.getfield 21, 3) := by decide +kernel
theorem dX1_waysOfTruth_46 : decode cX1_waysOfTruth 46 = .ok (.iload_n 1, 1) := by decide +kernel
theorem dX1_waysOfTruth_47 : decode cX1_waysOfTruth 47 = .ok (.iaload, 1) := by decide +kernel
theorem dX1_waysOfTruth_48 : decode cX1_waysOfTruth 48 = .ok (.isub, 1) := by decide +kernel
theorem dX1_waysOfTruth_49 : decode cX1_waysOfTruth 49 = .ok (.iconst 1, 1) := by decide +kernel
theorem dX1_waysOfTruth_50 : decode cX1_waysOfTruth 50 = .ok (.iadd, 1) := by decide +kernel
theorem dX1_waysOfTruth_51 : decode cX1_waysOfTruth 51 = .ok (.ireturn, 1) := by decide +kernel
theorem dX1_waysOfTruth_52 : decode cX1_waysOfTruth 52 = .ok (.aload_n 0, 1) := by decide +kernel
theorem dX1_waysOfTruth_53 : decode cX1_waysOfTruth 53 = .ok (.aload_n 0, 1) := by decide +kernel
theorem dX1_waysOfTruth_54 : decode cX1_waysOfTruth 54 = .ok (.getfield 33, 3) := by decide +kernel
theorem dX1_waysOfTruth_57 : decode cX1_waysOfTruth 57 = .ok (.getfield 94, 3) := by decide +kernel
theorem dX1_waysOfTruth_60 : decode cX1_waysOfTruth 60 = .ok (.iload_n 1, 1) := by decide +kernel
theorem dX1_waysOfTruth_61 : decode cX1_waysOfTruth 61 = .ok (.iaload, 1) := by decide +kernel
theorem dX1_waysOfTruth_62 : decode cX1_waysOfTruth 62 = .ok (.invokevirtual 108, 3) := by decide +kernel
theorem dX1_waysOfTruth_65 : decode cX1_waysOfTruth 65 = .ok (.istore_n 2, 1) := by decide +kernel
theorem dX1_waysOfTruth_66 : decode cX1_waysOfTruth 66 = .ok (.iload_n 2, 1) := by decide +kernel
theorem dX1_waysOfTruth_67 : decode cX1_waysOfTruth 67 = .ok (.aload_n 0, 1) := by decide +kernel
theorem dX1_waysOfTruth_68 : decode cX1_waysOfTruth 68 = .ok (.getfield 21, 3) := by decide +kernel
theorem dX1_waysOfTruth_71 : decode cX1_waysOfTruth 71 = .ok (.iload_n 1, 1) := by decide +kernel
theorem dX1_waysOfTruth_72 : decode cX1_waysOfTruth 72 = .ok (.iaload, 1) := by decide +kernel
theorem dX1_waysOfTruth_73 : decode cX1_waysOfTruth 73 = .ok (.if_icmp .lt 17, 3) := by decide +kernel
theorem dX1_waysOfTruth_76 : decode cX1_waysOfTruth 76 = .ok (.iload_n 2, 1) := by decide +kernel
theorem dX1_waysOfTruth_77 : decode cX1_waysOfTruth 77 = .ok (.aload_n 0, 1) := by decide +kernel
theorem dX1_waysOfTruth_78 : decode cX1_waysOfTruth 78 = .ok (.getfield 24, 3) := by decide +kernel
theorem dX1_waysOfTruth_81 : decode cX1_waysOfTruth 81 = .ok (.iload_n 1, 1) := by decide +kernel
theorem dX1_waysOfTruth_82 : decode cX1_waysOfTruth 82 = .ok (.iaload, 1) := by decide +kernel
theorem dX1_waysOfTruth_83 : decode cX1_waysOfTruth 83 = .ok (.if_icmp .gt 7, 3) := by decide +kernel
theorem dX1_waysOfTruth_86 : decode cX1_waysOfTruth 86 = .ok (.iconst 1, 1) := by decide +kernel
theorem dX1_waysOfTruth_87 : decode cX1_waysOfTruth 87 = .ok (.goto 4, 3) := by decide +kernel
theorem dX1_waysOfTruth_90 : decode cX1_waysOfTruth 90 = .ok (.iconst 0, 1) := by decide +kernel
theorem dX1_waysOfTruth_91 : decode cX1_waysOfTruth 91 = .ok (.ireturn, 1) := by decide +kernel
def F_X1_waysOfTruth (n : Nat) (S : aSt) (a0 : Nat) (a1 : Int32) : Option Int32 :=
rfd (S.2.2 a0 6) 4 fun k1 =>
rfd (S.2.2 k1 2) 7 fun k4 =>
grd (inb a1 (SH k4).2) <|
if (S.1 k4 a1.toNatClampNeg) = (-9 : Int32) then ((F_X1_isFreeQuestion n S a0 a1).bind fun r30 =>
if r30 = 0 then (rfd (S.2.2 k1 3) 7 fun k57 =>
grd (inb a1 (SH k57).2) <|
(F_X1_meaningOf n S a0 (S.1 k57 a1.toNatClampNeg)).bind fun r62 =>
rfd (S.2.2 a0 3) 7 fun k68 =>
grd (inb a1 (SH k68).2) <|
if r62 < (S.1 k68 a1.toNatClampNeg) then (some (0 : Int32)) else
rfd (S.2.2 a0 4) 7 fun k78 =>
grd (inb a1 (SH k78).2) <|
if (S.1 k78 a1.toNatClampNeg) < r62 then (some (0 : Int32)) else
some (1 : Int32)) else
rfd (S.2.2 a0 4) 7 fun k37 =>
grd (inb a1 (SH k37).2) <|
rfd (S.2.2 a0 3) 7 fun k43 =>
grd (inb a1 (SH k43).2) <|
some (((S.1 k37 a1.toNatClampNeg) - (S.1 k43 a1.toNatClampNeg)) + (1 : Int32))) else
(F_X1_verdict n S a0 a1).bind fun r16 =>
if r16 = 0 then (some (0 : Int32)) else
some (1 : Int32)
set_option maxHeartbeats 4000000 in
set_option maxRecDepth 100000 in
theorem C_X1_waysOfTruth (G : aG) (l : Launch) (n : Nat) (S : aSt) (a0 : Nat) (a1 : Int32) (r : Int32) (ha0 : isT a0 0 = true) (hf : F_X1_waysOfTruth n S a0 a1 = some r) : Ctr G l yX1_waysOfTruth mX1_waysOfTruth (rmM 4) 97 97 S [.ref a0, .int a1] (some (.int r)) S := by
  refine Ctr.of (by decide) rfl rfl (Nat.le_of_ble_eq_true rfl) [(0, .ref a0), (1, .int a1)] rfl ?_
  unfold F_X1_waysOfTruth at hf
  refine Go.aload_n 0 1 rfl dX1_waysOfTruth_0 rfl ?_
  obtain ⟨k1, qk1, hk1, hf⟩ := f_rfd hf
  refine Go.getR 4 rfl dX1_waysOfTruth_1 fl_X1_33 rfl (isT_lt ha0) (isT_sh ha0) qk1 ?_
  obtain ⟨k4, qk4, hk4, hf⟩ := f_rfd hf
  refine Go.getR 7 rfl dX1_waysOfTruth_4 fl_X1_118 rfl (isT_lt hk1) (isT_sh hk1) qk4 ?_
  refine Go.iload_n 1 8 rfl dX1_waysOfTruth_7 rfl ?_
  obtain ⟨g8, hf⟩ := f_grd hf
  refine Go.iald 9 rfl dX1_waysOfTruth_8 (isT_lt hk4) (isT_sh hk4) g8 ?_
  refine Go.bipush (-9 : Int32) 11 rfl dX1_waysOfTruth_9 cb_m9 ?_
  refine Go.icmp_eq 28 14 rfl dX1_waysOfTruth_11 rfl (fun hc => ?_) (fun hc => ?_)
  · replace hf := f_if hf hc
    refine Go.aload_n 0 29 rfl dX1_waysOfTruth_28 rfl ?_
    refine Go.iload_n 1 30 rfl dX1_waysOfTruth_29 rfl ?_
    obtain ⟨r30, er30, hf⟩ := f_bnd hf
    refine Go.cV 33 [.int a1] [] (C_X1_isFreeQuestion G l n S a0 a1 r30 ha0 er30) rfl dX1_waysOfTruth_30 cv_X1_101 ha0 (by decide) (by decide) rfl (Nat.le_of_ble_eq_true rfl) ?_
    refine Go.if_eq 52 36 rfl dX1_waysOfTruth_33 rfl (fun hc => ?_) (fun hc => ?_)
    · replace hf := f_if hf hc
      refine Go.aload_n 0 53 rfl dX1_waysOfTruth_52 rfl ?_
      refine Go.aload_n 0 54 rfl dX1_waysOfTruth_53 rfl ?_
      refine Go.getR 57 rfl dX1_waysOfTruth_54 fl_X1_33 rfl (isT_lt ha0) (isT_sh ha0) qk1 ?_
      obtain ⟨k57, qk57, hk57, hf⟩ := f_rfd hf
      refine Go.getR 60 rfl dX1_waysOfTruth_57 fl_X1_94 rfl (isT_lt hk1) (isT_sh hk1) qk57 ?_
      refine Go.iload_n 1 61 rfl dX1_waysOfTruth_60 rfl ?_
      obtain ⟨g61, hf⟩ := f_grd hf
      refine Go.iald 62 rfl dX1_waysOfTruth_61 (isT_lt hk57) (isT_sh hk57) g61 ?_
      obtain ⟨r62, er62, hf⟩ := f_bnd hf
      refine Go.cV 65 [.int (S.1 k57 a1.toNatClampNeg)] [] (C_X1_meaningOf G l n S a0 (S.1 k57 a1.toNatClampNeg) r62 ha0 er62) rfl dX1_waysOfTruth_62 cv_X1_108 ha0 (by decide) (by decide) rfl (Nat.le_of_ble_eq_true rfl) ?_
      refine Go.istore_n 66 [(2, .int r62), (0, .ref a0), (1, .int a1)] rfl dX1_waysOfTruth_65 (by decide) rfl ?_
      refine Go.iload_n 0 67 rfl dX1_waysOfTruth_66 rfl ?_
      refine Go.aload_n 1 68 rfl dX1_waysOfTruth_67 rfl ?_
      obtain ⟨k68, qk68, hk68, hf⟩ := f_rfd hf
      refine Go.getR 71 rfl dX1_waysOfTruth_68 fl_X1_21 rfl (isT_lt ha0) (isT_sh ha0) qk68 ?_
      refine Go.iload_n 2 72 rfl dX1_waysOfTruth_71 rfl ?_
      obtain ⟨g72, hf⟩ := f_grd hf
      refine Go.iald 73 rfl dX1_waysOfTruth_72 (isT_lt hk68) (isT_sh hk68) g72 ?_
      refine Go.icmp_lt 90 76 rfl dX1_waysOfTruth_73 rfl (fun hc => ?_) (fun hc => ?_)
      · replace hf := f_if hf hc
        refine Go.iconst (0 : Int32) 91 rfl dX1_waysOfTruth_90 ci_0 ?_
        exact Go.ir rfl dX1_waysOfTruth_91 hf
      · replace hf := f_el hf hc
        refine Go.iload_n 0 77 rfl dX1_waysOfTruth_76 rfl ?_
        refine Go.aload_n 1 78 rfl dX1_waysOfTruth_77 rfl ?_
        obtain ⟨k78, qk78, hk78, hf⟩ := f_rfd hf
        refine Go.getR 81 rfl dX1_waysOfTruth_78 fl_X1_24 rfl (isT_lt ha0) (isT_sh ha0) qk78 ?_
        refine Go.iload_n 2 82 rfl dX1_waysOfTruth_81 rfl ?_
        obtain ⟨g82, hf⟩ := f_grd hf
        refine Go.iald 83 rfl dX1_waysOfTruth_82 (isT_lt hk78) (isT_sh hk78) g82 ?_
        refine Go.icmp_gt 90 86 rfl dX1_waysOfTruth_83 rfl (fun hc => ?_) (fun hc => ?_)
        · replace hf := f_if hf hc
          refine Go.iconst (0 : Int32) 91 rfl dX1_waysOfTruth_90 ci_0 ?_
          exact Go.ir rfl dX1_waysOfTruth_91 hf
        · replace hf := f_el hf hc
          refine Go.iconst (1 : Int32) 87 rfl dX1_waysOfTruth_86 ci_1 ?_
          refine Go.goto 91 dX1_waysOfTruth_87 rfl ?_
          exact Go.ir rfl dX1_waysOfTruth_91 hf
    · replace hf := f_el hf hc
      refine Go.aload_n 0 37 rfl dX1_waysOfTruth_36 rfl ?_
      obtain ⟨k37, qk37, hk37, hf⟩ := f_rfd hf
      refine Go.getR 40 rfl dX1_waysOfTruth_37 fl_X1_24 rfl (isT_lt ha0) (isT_sh ha0) qk37 ?_
      refine Go.iload_n 1 41 rfl dX1_waysOfTruth_40 rfl ?_
      obtain ⟨g41, hf⟩ := f_grd hf
      refine Go.iald 42 rfl dX1_waysOfTruth_41 (isT_lt hk37) (isT_sh hk37) g41 ?_
      refine Go.aload_n 0 43 rfl dX1_waysOfTruth_42 rfl ?_
      obtain ⟨k43, qk43, hk43, hf⟩ := f_rfd hf
      refine Go.getR 46 rfl dX1_waysOfTruth_43 fl_X1_21 rfl (isT_lt ha0) (isT_sh ha0) qk43 ?_
      refine Go.iload_n 1 47 rfl dX1_waysOfTruth_46 rfl ?_
      obtain ⟨g47, hf⟩ := f_grd hf
      refine Go.iald 48 rfl dX1_waysOfTruth_47 (isT_lt hk43) (isT_sh hk43) g47 ?_
      refine Go.isub 49 rfl dX1_waysOfTruth_48 ?_
      refine Go.iconst (1 : Int32) 50 rfl dX1_waysOfTruth_49 ci_1 ?_
      refine Go.iadd 51 rfl dX1_waysOfTruth_50 ?_
      exact Go.ir rfl dX1_waysOfTruth_51 hf
  · replace hf := f_el hf hc
    refine Go.aload_n 0 15 rfl dX1_waysOfTruth_14 rfl ?_
    refine Go.iload_n 1 16 rfl dX1_waysOfTruth_15 rfl ?_
    obtain ⟨r16, er16, hf⟩ := f_bnd hf
    refine Go.cV 19 [.int a1] [] (C_X1_verdict G l n S a0 a1 r16 ha0 er16) rfl dX1_waysOfTruth_16 cv_X1_121 ha0 (by decide) (by decide) rfl (Nat.le_of_ble_eq_true rfl) ?_
    refine Go.if_ne 26 22 rfl dX1_waysOfTruth_19 rfl (fun hc => ?_) (fun hc => ?_)
    · replace hf := f_el hf hc
      refine Go.iconst (1 : Int32) 27 rfl dX1_waysOfTruth_26 ci_1 ?_
      exact Go.ir rfl dX1_waysOfTruth_27 hf
    · replace hf := f_if hf hc
      refine Go.iconst (0 : Int32) 23 rfl dX1_waysOfTruth_22 ci_0 ?_
      refine Go.goto 27 dX1_waysOfTruth_23 rfl ?_
      exact Go.ir rfl dX1_waysOfTruth_27 hf
theorem dX1_cardFact_0 : decode cX1_cardFact 0 = .ok (.iload_n 2, 1) := by decide +kernel
theorem dX1_cardFact_1 : decode cX1_cardFact 1 = .ok (.tableswitch 75 0 4 #[35, 42, 49, 55, 65], 35) := by decide +kernel
theorem dX1_cardFact_36 : decode cX1_cardFact 36 = .ok (.aload_n 0, 1) := by decide +kernel
theorem dX1_cardFact_37 : decode cX1_cardFact 37 = .ok (.getfield 9, 3) := by decide +kernel
theorem dX1_cardFact_40 : decode cX1_cardFact 40 = .ok (.iload_n 1, 1) := by decide +kernel
theorem dX1_cardFact_41 : decode cX1_cardFact 41 = .ok (.iaload, 1) := by decide +kernel
theorem dX1_cardFact_42 : decode cX1_cardFact 42 = .ok (.ireturn, 1) := by decide +kernel
theorem dX1_cardFact_43 : decode cX1_cardFact 43 = .ok (.aload_n 0, 1) := by decide +kernel
theorem dX1_cardFact_44 : decode cX1_cardFact 44 = .ok (.getfield 15, 3) := by decide +kernel
theorem dX1_cardFact_47 : decode cX1_cardFact 47 = .ok (.iload_n 1, 1) := by decide +kernel
theorem dX1_cardFact_48 : decode cX1_cardFact 48 = .ok (.iaload, 1) := by decide +kernel
theorem dX1_cardFact_49 : decode cX1_cardFact 49 = .ok (.ireturn, 1) := by decide +kernel
theorem dX1_cardFact_50 : decode cX1_cardFact 50 = .ok (.aload_n 0, 1) := by decide +kernel
theorem dX1_cardFact_51 : decode cX1_cardFact 51 = .ok (.iload_n 1, 1) := by decide +kernel
theorem dX1_cardFact_52 : decode cX1_cardFact 52 = .ok (.invokevirtual 108, 3) := by decide +kernel
theorem dX1_cardFact_55 : decode cX1_cardFact 55 = .ok (.ireturn, 1) := by decide +kernel
theorem dX1_cardFact_56 : decode cX1_cardFact 56 = .ok (.aload_n 0, 1) := by decide +kernel
theorem dX1_cardFact_57 : decode cX1_cardFact 57 = .ok (.getfield 33, 3) := by decide +kernel
theorem dX1_cardFact_60 : decode cX1_cardFact 60 = .ok (.getfield 79, 3) := by decide +kernel
theorem dX1_cardFact_63 : decode cX1_cardFact 63 = .ok (.iload_n 1, 1) := by decide +kernel
theorem dX1_cardFact_64 : decode cX1_cardFact 64 = .ok (.iaload, 1) := by decide +kernel
theorem dX1_cardFact_65 : decode cX1_cardFact 65 = .ok (.ireturn, 1) := by decide +kernel
theorem dX1_cardFact_66 : decode cX1_cardFact 66 = .ok (.aload_n 0, 1) := by decide +kernel
theorem dX1_cardFact_67 : decode cX1_cardFact 67 = .ok (.getfield 33, 3) := by decide +kernel
theorem dX1_cardFact_70 : decode cX1_cardFact 70 = .ok (.getfield 82, 3) := by decide +kernel
theorem dX1_cardFact_73 : decode cX1_cardFact 73 = .ok (.iload_n 1, 1) := by decide +kernel
theorem dX1_cardFact_74 : decode cX1_cardFact 74 = .ok (.iaload, 1) := by decide +kernel
theorem dX1_cardFact_75 : decode cX1_cardFact 75 = .ok (.ireturn, 1) := by decide +kernel
theorem dX1_cardFact_76 : decode cX1_cardFact 76 = .ok (.aload_n 0, 1) := by decide +kernel
theorem dX1_cardFact_77 : decode cX1_cardFact 77 = .ok (.getfield 33, 3) := by decide +kernel
theorem dX1_cardFact_80 : decode cX1_cardFact 80 = .ok (.iload_n 1, 1) := by decide +kernel
theorem dX1_cardFact_81 : decode cX1_cardFact 81 = .ok (.invokevirtual 91, 3) := by decide +kernel
theorem dX1_cardFact_84 : decode cX1_cardFact 84 = .ok (.ireturn, 1) := by decide +kernel
def F_X1_cardFact (n : Nat) (S : aSt) (a0 : Nat) (a1 : Int32) (a2 : Int32) : Option Int32 :=
if a2 = (0 : Int32) then (rfd (S.2.2 a0 0) 7 fun k37 =>
grd (inb a1 (SH k37).2) <|
some (S.1 k37 a1.toNatClampNeg)) else
if a2 = (1 : Int32) then (rfd (S.2.2 a0 1) 7 fun k44 =>
grd (inb a1 (SH k44).2) <|
some (S.1 k44 a1.toNatClampNeg)) else
if a2 = (2 : Int32) then ((F_X1_meaningOf n S a0 a1).bind fun r52 =>
some r52) else
if a2 = (3 : Int32) then (rfd (S.2.2 a0 6) 4 fun k57 =>
rfd (S.2.2 k57 0) 7 fun k60 =>
grd (inb a1 (SH k60).2) <|
some (S.1 k60 a1.toNatClampNeg)) else
if a2 = (4 : Int32) then (rfd (S.2.2 a0 6) 4 fun k67 =>
rfd (S.2.2 k67 1) 7 fun k70 =>
grd (inb a1 (SH k70).2) <|
some (S.1 k70 a1.toNatClampNeg)) else
rfd (S.2.2 a0 6) 4 fun k77 =>
(F_X5_questionOf n S k77 a1).bind fun r81 =>
some r81
set_option maxHeartbeats 4000000 in
set_option maxRecDepth 100000 in
theorem C_X1_cardFact (G : aG) (l : Launch) (n : Nat) (S : aSt) (a0 : Nat) (a1 : Int32) (a2 : Int32) (r : Int32) (ha0 : isT a0 0 = true) (hf : F_X1_cardFact n S a0 a1 a2 = some r) : Ctr G l yX1_cardFact mX1_cardFact (rmM 3) 97 97 S [.ref a0, .int a1, .int a2] (some (.int r)) S := by
  refine Ctr.of (by decide) rfl rfl (Nat.le_of_ble_eq_true rfl) [(0, .ref a0), (1, .int a1), (2, .int a2)] rfl ?_
  unfold F_X1_cardFact at hf
  refine Go.iload_n 2 1 rfl dX1_cardFact_0 rfl ?_
  by_cases hs1_0 : a2 = (0 : Int32)
  · replace hf := f_if hf hs1_0
    refine Go.tin (0 : Int32) 36 hs1_0 dX1_cardFact_1 (by decide) (by decide) rfl rfl ?_
    refine Go.aload_n 0 37 rfl dX1_cardFact_36 rfl ?_
    obtain ⟨k37, qk37, hk37, hf⟩ := f_rfd hf
    refine Go.getR 40 rfl dX1_cardFact_37 fl_X1_9 rfl (isT_lt ha0) (isT_sh ha0) qk37 ?_
    refine Go.iload_n 1 41 rfl dX1_cardFact_40 rfl ?_
    obtain ⟨g41, hf⟩ := f_grd hf
    refine Go.iald 42 rfl dX1_cardFact_41 (isT_lt hk37) (isT_sh hk37) g41 ?_
    exact Go.ir rfl dX1_cardFact_42 hf
  replace hf := f_el hf hs1_0
  by_cases hs1_1 : a2 = (1 : Int32)
  · replace hf := f_if hf hs1_1
    refine Go.tin (1 : Int32) 43 hs1_1 dX1_cardFact_1 (by decide) (by decide) rfl rfl ?_
    refine Go.aload_n 0 44 rfl dX1_cardFact_43 rfl ?_
    obtain ⟨k44, qk44, hk44, hf⟩ := f_rfd hf
    refine Go.getR 47 rfl dX1_cardFact_44 fl_X1_15 rfl (isT_lt ha0) (isT_sh ha0) qk44 ?_
    refine Go.iload_n 1 48 rfl dX1_cardFact_47 rfl ?_
    obtain ⟨g48, hf⟩ := f_grd hf
    refine Go.iald 49 rfl dX1_cardFact_48 (isT_lt hk44) (isT_sh hk44) g48 ?_
    exact Go.ir rfl dX1_cardFact_49 hf
  replace hf := f_el hf hs1_1
  by_cases hs1_2 : a2 = (2 : Int32)
  · replace hf := f_if hf hs1_2
    refine Go.tin (2 : Int32) 50 hs1_2 dX1_cardFact_1 (by decide) (by decide) rfl rfl ?_
    refine Go.aload_n 0 51 rfl dX1_cardFact_50 rfl ?_
    refine Go.iload_n 1 52 rfl dX1_cardFact_51 rfl ?_
    obtain ⟨r52, er52, hf⟩ := f_bnd hf
    refine Go.cV 55 [.int a1] [] (C_X1_meaningOf G l n S a0 a1 r52 ha0 er52) rfl dX1_cardFact_52 cv_X1_108 ha0 (by decide) (by decide) rfl (Nat.le_of_ble_eq_true rfl) ?_
    exact Go.ir rfl dX1_cardFact_55 hf
  replace hf := f_el hf hs1_2
  by_cases hs1_3 : a2 = (3 : Int32)
  · replace hf := f_if hf hs1_3
    refine Go.tin (3 : Int32) 56 hs1_3 dX1_cardFact_1 (by decide) (by decide) rfl rfl ?_
    refine Go.aload_n 0 57 rfl dX1_cardFact_56 rfl ?_
    obtain ⟨k57, qk57, hk57, hf⟩ := f_rfd hf
    refine Go.getR 60 rfl dX1_cardFact_57 fl_X1_33 rfl (isT_lt ha0) (isT_sh ha0) qk57 ?_
    obtain ⟨k60, qk60, hk60, hf⟩ := f_rfd hf
    refine Go.getR 63 rfl dX1_cardFact_60 fl_X1_79 rfl (isT_lt hk57) (isT_sh hk57) qk60 ?_
    refine Go.iload_n 1 64 rfl dX1_cardFact_63 rfl ?_
    obtain ⟨g64, hf⟩ := f_grd hf
    refine Go.iald 65 rfl dX1_cardFact_64 (isT_lt hk60) (isT_sh hk60) g64 ?_
    exact Go.ir rfl dX1_cardFact_65 hf
  replace hf := f_el hf hs1_3
  by_cases hs1_4 : a2 = (4 : Int32)
  · replace hf := f_if hf hs1_4
    refine Go.tin (4 : Int32) 66 hs1_4 dX1_cardFact_1 (by decide) (by decide) rfl rfl ?_
    refine Go.aload_n 0 67 rfl dX1_cardFact_66 rfl ?_
    obtain ⟨k67, qk67, hk67, hf⟩ := f_rfd hf
    refine Go.getR 70 rfl dX1_cardFact_67 fl_X1_33 rfl (isT_lt ha0) (isT_sh ha0) qk67 ?_
    obtain ⟨k70, qk70, hk70, hf⟩ := f_rfd hf
    refine Go.getR 73 rfl dX1_cardFact_70 fl_X1_82 rfl (isT_lt hk67) (isT_sh hk67) qk70 ?_
    refine Go.iload_n 1 74 rfl dX1_cardFact_73 rfl ?_
    obtain ⟨g74, hf⟩ := f_grd hf
    refine Go.iald 75 rfl dX1_cardFact_74 (isT_lt hk70) (isT_sh hk70) g74 ?_
    exact Go.ir rfl dX1_cardFact_75 hf
  replace hf := f_el hf hs1_4
  have nhs1_0 := tsw_ne (z := 0) hs1_0 (by decide)
  have nhs1_1 := tsw_ne (z := 1) hs1_1 (by decide)
  have nhs1_2 := tsw_ne (z := 2) hs1_2 (by decide)
  have nhs1_3 := tsw_ne (z := 3) hs1_3 (by decide)
  have nhs1_4 := tsw_ne (z := 4) hs1_4 (by decide)
  refine Go.tout 76 dX1_cardFact_1 (by omega) rfl ?_
  refine Go.aload_n 0 77 rfl dX1_cardFact_76 rfl ?_
  obtain ⟨k77, qk77, hk77, hf⟩ := f_rfd hf
  refine Go.getR 80 rfl dX1_cardFact_77 fl_X1_33 rfl (isT_lt ha0) (isT_sh ha0) qk77 ?_
  refine Go.iload_n 1 81 rfl dX1_cardFact_80 rfl ?_
  obtain ⟨r81, er81, hf⟩ := f_bnd hf
  refine Go.cV 84 [.int a1] [] (C_X5_questionOf G l n S k77 a1 r81 hk77 er81) rfl dX1_cardFact_81 cv_X1_91 hk77 (by decide) (by decide) rfl (Nat.le_of_ble_eq_true rfl) ?_
  exact Go.ir rfl dX1_cardFact_84 hf
theorem dX1_questionFact_0 : decode cX1_questionFact 0 = .ok (.iload_n 2, 1) := by decide +kernel
theorem dX1_questionFact_1 : decode cX1_questionFact 1 = .ok (.tableswitch 73 0 4 #[35, 42, 49, 56, 63], 35) := by decide +kernel
theorem dX1_questionFact_36 : decode cX1_questionFact 36 = .ok (.aload_n 0, 1) := by decide +kernel
theorem dX1_questionFact_37 : decode cX1_questionFact 37 = .ok (.getfield 18, 3) := by decide +kernel
theorem dX1_questionFact_40 : decode cX1_questionFact 40 = .ok (.iload_n 1, 1) := by decide +kernel
theorem dX1_questionFact_41 : decode cX1_questionFact 41 = .ok (.iaload, 1) := by decide +kernel
theorem dX1_questionFact_42 : decode cX1_questionFact 42 = .ok (.ireturn, 1) := by decide +kernel
theorem dX1_questionFact_43 : decode cX1_questionFact 43 = .ok (.aload_n 0, 1) := by decide +kernel
theorem dX1_questionFact_44 : decode cX1_questionFact 44 = .ok (.getfield 21, 3) := by decide +kernel
theorem dX1_questionFact_47 : decode cX1_questionFact 47 = .ok (.iload_n 1, 1) := by decide +kernel
theorem dX1_questionFact_48 : decode cX1_questionFact 48 = .ok (.iaload, 1) := by decide +kernel
theorem dX1_questionFact_49 : decode cX1_questionFact 49 = .ok (.ireturn, 1) := by decide +kernel
theorem dX1_questionFact_50 : decode cX1_questionFact 50 = .ok (.aload_n 0, 1) := by decide +kernel
theorem dX1_questionFact_51 : decode cX1_questionFact 51 = .ok (.getfield 24, 3) := by decide +kernel
theorem dX1_questionFact_54 : decode cX1_questionFact 54 = .ok (.iload_n 1, 1) := by decide +kernel
theorem dX1_questionFact_55 : decode cX1_questionFact 55 = .ok (.iaload, 1) := by decide +kernel
theorem dX1_questionFact_56 : decode cX1_questionFact 56 = .ok (.ireturn, 1) := by decide +kernel
theorem dX1_questionFact_57 : decode cX1_questionFact 57 = .ok (.aload_n 0, 1) := by decide +kernel
theorem dX1_questionFact_58 : decode cX1_questionFact 58 = .ok (.getfield 27, 3) := by decide +kernel
theorem dX1_questionFact_61 : decode cX1_questionFact 61 = .ok (.iload_n 1, 1) := by decide +kernel
theorem dX1_questionFact_62 : decode cX1_questionFact 62 = .ok (.iaload, 1) := by decide +kernel
theorem dX1_questionFact_63 : decode cX1_questionFact 63 = .ok (.ireturn, 1) := by decide +kernel
theorem dX1_questionFact_64 : decode cX1_questionFact 64 = .ok (.aload_n 0, 1) := by decide +kernel
theorem dX1_questionFact_65 : decode cX1_questionFact 65 = .ok (.getfield 33, 3) := by decide +kernel
theorem dX1_questionFact_68 : decode cX1_questionFact 68 = .ok (.getfield 118, 3) := by decide +kernel
theorem dX1_questionFact_71 : decode cX1_questionFact 71 = .ok (.iload_n 1, 1) := by decide +kernel
theorem dX1_questionFact_72 : decode cX1_questionFact 72 = .ok (.iaload, 1) := by decide +kernel
theorem dX1_questionFact_73 : decode cX1_questionFact 73 = .ok (.ireturn, 1) := by decide +kernel
theorem dX1_questionFact_74 : decode cX1_questionFact 74 = .ok (.aload_n 0, 1) := by decide +kernel
theorem dX1_questionFact_75 : decode cX1_questionFact 75 = .ok (.getfield 33, 3) := by decide +kernel
theorem dX1_questionFact_78 : decode cX1_questionFact 78 = .ok (.getfield 94, 3) := by decide +kernel
theorem dX1_questionFact_81 : decode cX1_questionFact 81 = .ok (.iload_n 1, 1) := by decide +kernel
theorem dX1_questionFact_82 : decode cX1_questionFact 82 = .ok (.iaload, 1) := by decide +kernel
theorem dX1_questionFact_83 : decode cX1_questionFact 83 = .ok (.ireturn, 1) := by decide +kernel
def F_X1_questionFact (n : Nat) (S : aSt) (a0 : Nat) (a1 : Int32) (a2 : Int32) : Option Int32 :=
if a2 = (0 : Int32) then (rfd (S.2.2 a0 2) 7 fun k37 =>
grd (inb a1 (SH k37).2) <|
some (S.1 k37 a1.toNatClampNeg)) else
if a2 = (1 : Int32) then (rfd (S.2.2 a0 3) 7 fun k44 =>
grd (inb a1 (SH k44).2) <|
some (S.1 k44 a1.toNatClampNeg)) else
if a2 = (2 : Int32) then (rfd (S.2.2 a0 4) 7 fun k51 =>
grd (inb a1 (SH k51).2) <|
some (S.1 k51 a1.toNatClampNeg)) else
if a2 = (3 : Int32) then (rfd (S.2.2 a0 5) 7 fun k58 =>
grd (inb a1 (SH k58).2) <|
some (S.1 k58 a1.toNatClampNeg)) else
if a2 = (4 : Int32) then (rfd (S.2.2 a0 6) 4 fun k65 =>
rfd (S.2.2 k65 2) 7 fun k68 =>
grd (inb a1 (SH k68).2) <|
some (S.1 k68 a1.toNatClampNeg)) else
rfd (S.2.2 a0 6) 4 fun k75 =>
rfd (S.2.2 k75 3) 7 fun k78 =>
grd (inb a1 (SH k78).2) <|
some (S.1 k78 a1.toNatClampNeg)
set_option maxHeartbeats 4000000 in
set_option maxRecDepth 100000 in
theorem C_X1_questionFact (G : aG) (l : Launch) (n : Nat) (S : aSt) (a0 : Nat) (a1 : Int32) (a2 : Int32) (r : Int32) (ha0 : isT a0 0 = true) (hf : F_X1_questionFact n S a0 a1 a2 = some r) : Ctr G l yX1_questionFact mX1_questionFact (rmM 1) 97 97 S [.ref a0, .int a1, .int a2] (some (.int r)) S := by
  refine Ctr.of (by decide) rfl rfl (Nat.le_of_ble_eq_true rfl) [(0, .ref a0), (1, .int a1), (2, .int a2)] rfl ?_
  unfold F_X1_questionFact at hf
  refine Go.iload_n 2 1 rfl dX1_questionFact_0 rfl ?_
  by_cases hs1_0 : a2 = (0 : Int32)
  · replace hf := f_if hf hs1_0
    refine Go.tin (0 : Int32) 36 hs1_0 dX1_questionFact_1 (by decide) (by decide) rfl rfl ?_
    refine Go.aload_n 0 37 rfl dX1_questionFact_36 rfl ?_
    obtain ⟨k37, qk37, hk37, hf⟩ := f_rfd hf
    refine Go.getR 40 rfl dX1_questionFact_37 fl_X1_18 rfl (isT_lt ha0) (isT_sh ha0) qk37 ?_
    refine Go.iload_n 1 41 rfl dX1_questionFact_40 rfl ?_
    obtain ⟨g41, hf⟩ := f_grd hf
    refine Go.iald 42 rfl dX1_questionFact_41 (isT_lt hk37) (isT_sh hk37) g41 ?_
    exact Go.ir rfl dX1_questionFact_42 hf
  replace hf := f_el hf hs1_0
  by_cases hs1_1 : a2 = (1 : Int32)
  · replace hf := f_if hf hs1_1
    refine Go.tin (1 : Int32) 43 hs1_1 dX1_questionFact_1 (by decide) (by decide) rfl rfl ?_
    refine Go.aload_n 0 44 rfl dX1_questionFact_43 rfl ?_
    obtain ⟨k44, qk44, hk44, hf⟩ := f_rfd hf
    refine Go.getR 47 rfl dX1_questionFact_44 fl_X1_21 rfl (isT_lt ha0) (isT_sh ha0) qk44 ?_
    refine Go.iload_n 1 48 rfl dX1_questionFact_47 rfl ?_
    obtain ⟨g48, hf⟩ := f_grd hf
    refine Go.iald 49 rfl dX1_questionFact_48 (isT_lt hk44) (isT_sh hk44) g48 ?_
    exact Go.ir rfl dX1_questionFact_49 hf
  replace hf := f_el hf hs1_1
  by_cases hs1_2 : a2 = (2 : Int32)
  · replace hf := f_if hf hs1_2
    refine Go.tin (2 : Int32) 50 hs1_2 dX1_questionFact_1 (by decide) (by decide) rfl rfl ?_
    refine Go.aload_n 0 51 rfl dX1_questionFact_50 rfl ?_
    obtain ⟨k51, qk51, hk51, hf⟩ := f_rfd hf
    refine Go.getR 54 rfl dX1_questionFact_51 fl_X1_24 rfl (isT_lt ha0) (isT_sh ha0) qk51 ?_
    refine Go.iload_n 1 55 rfl dX1_questionFact_54 rfl ?_
    obtain ⟨g55, hf⟩ := f_grd hf
    refine Go.iald 56 rfl dX1_questionFact_55 (isT_lt hk51) (isT_sh hk51) g55 ?_
    exact Go.ir rfl dX1_questionFact_56 hf
  replace hf := f_el hf hs1_2
  by_cases hs1_3 : a2 = (3 : Int32)
  · replace hf := f_if hf hs1_3
    refine Go.tin (3 : Int32) 57 hs1_3 dX1_questionFact_1 (by decide) (by decide) rfl rfl ?_
    refine Go.aload_n 0 58 rfl dX1_questionFact_57 rfl ?_
    obtain ⟨k58, qk58, hk58, hf⟩ := f_rfd hf
    refine Go.getR 61 rfl dX1_questionFact_58 fl_X1_27 rfl (isT_lt ha0) (isT_sh ha0) qk58 ?_
    refine Go.iload_n 1 62 rfl dX1_questionFact_61 rfl ?_
    obtain ⟨g62, hf⟩ := f_grd hf
    refine Go.iald 63 rfl dX1_questionFact_62 (isT_lt hk58) (isT_sh hk58) g62 ?_
    exact Go.ir rfl dX1_questionFact_63 hf
  replace hf := f_el hf hs1_3
  by_cases hs1_4 : a2 = (4 : Int32)
  · replace hf := f_if hf hs1_4
    refine Go.tin (4 : Int32) 64 hs1_4 dX1_questionFact_1 (by decide) (by decide) rfl rfl ?_
    refine Go.aload_n 0 65 rfl dX1_questionFact_64 rfl ?_
    obtain ⟨k65, qk65, hk65, hf⟩ := f_rfd hf
    refine Go.getR 68 rfl dX1_questionFact_65 fl_X1_33 rfl (isT_lt ha0) (isT_sh ha0) qk65 ?_
    obtain ⟨k68, qk68, hk68, hf⟩ := f_rfd hf
    refine Go.getR 71 rfl dX1_questionFact_68 fl_X1_118 rfl (isT_lt hk65) (isT_sh hk65) qk68 ?_
    refine Go.iload_n 1 72 rfl dX1_questionFact_71 rfl ?_
    obtain ⟨g72, hf⟩ := f_grd hf
    refine Go.iald 73 rfl dX1_questionFact_72 (isT_lt hk68) (isT_sh hk68) g72 ?_
    exact Go.ir rfl dX1_questionFact_73 hf
  replace hf := f_el hf hs1_4
  have nhs1_0 := tsw_ne (z := 0) hs1_0 (by decide)
  have nhs1_1 := tsw_ne (z := 1) hs1_1 (by decide)
  have nhs1_2 := tsw_ne (z := 2) hs1_2 (by decide)
  have nhs1_3 := tsw_ne (z := 3) hs1_3 (by decide)
  have nhs1_4 := tsw_ne (z := 4) hs1_4 (by decide)
  refine Go.tout 74 dX1_questionFact_1 (by omega) rfl ?_
  refine Go.aload_n 0 75 rfl dX1_questionFact_74 rfl ?_
  obtain ⟨k75, qk75, hk75, hf⟩ := f_rfd hf
  refine Go.getR 78 rfl dX1_questionFact_75 fl_X1_33 rfl (isT_lt ha0) (isT_sh ha0) qk75 ?_
  obtain ⟨k78, qk78, hk78, hf⟩ := f_rfd hf
  refine Go.getR 81 rfl dX1_questionFact_78 fl_X1_94 rfl (isT_lt hk75) (isT_sh hk75) qk78 ?_
  refine Go.iload_n 1 82 rfl dX1_questionFact_81 rfl ?_
  obtain ⟨g82, hf⟩ := f_grd hf
  refine Go.iald 83 rfl dX1_questionFact_82 (isT_lt hk78) (isT_sh hk78) g82 ?_
  exact Go.ir rfl dX1_questionFact_83 hf
theorem dX1_cardsOn_0 : decode cX1_cardsOn 0 = .ok (.iconst 0, 1) := by decide +kernel
theorem dX1_cardsOn_1 : decode cX1_cardsOn 1 = .ok (.istore_n 2, 1) := by decide +kernel
theorem dX1_cardsOn_2 : decode cX1_cardsOn 2 = .ok (.iconst 0, 1) := by decide +kernel
theorem dX1_cardsOn_3 : decode cX1_cardsOn 3 = .ok (.istore_n 3, 1) := by decide +kernel
theorem dX1_cardsOn_4 : decode cX1_cardsOn 4 = .ok (.iload_n 3, 1) := by decide +kernel
theorem dX1_cardsOn_5 : decode cX1_cardsOn 5 = .ok (.aload_n 0, 1) := by decide +kernel
theorem dX1_cardsOn_6 : decode cX1_cardsOn 6 = .ok (.getfield 37, 3) := by decide +kernel
theorem dX1_cardsOn_9 : decode cX1_cardsOn 9 = .ok (.if_icmp .ge 25, 3) := by decide +kernel
theorem dX1_cardsOn_12 : decode cX1_cardsOn 12 = .ok (.aload_n 0, 1) := by decide +kernel
theorem dX1_cardsOn_13 : decode cX1_cardsOn 13 = .ok (.getfield 33, 3) := by decide +kernel
theorem dX1_cardsOn_16 : decode cX1_cardsOn 16 = .ok (.getfield 79, 3) := by decide +kernel
theorem dX1_cardsOn_19 : decode cX1_cardsOn 19 = .ok (.iload_n 3, 1) := by decide +kernel
theorem dX1_cardsOn_20 : decode cX1_cardsOn 20 = .ok (.iaload, 1) := by decide +kernel
theorem dX1_cardsOn_21 : decode cX1_cardsOn 21 = .ok (.iload_n 1, 1) := by decide +kernel
theorem dX1_cardsOn_22 : decode cX1_cardsOn 22 = .ok (.if_icmp .ne 6, 3) := by decide +kernel
theorem dX1_cardsOn_25 : decode cX1_cardsOn 25 = .ok (.iinc 2 1, 3) := by decide +kernel
theorem dX1_cardsOn_28 : decode cX1_cardsOn 28 = .ok (.iinc 3 1, 3) := by decide +kernel
theorem dX1_cardsOn_31 : decode cX1_cardsOn 31 = .ok (.goto (-27), 3) := by decide +kernel
theorem dX1_cardsOn_34 : decode cX1_cardsOn 34 = .ok (.iload_n 2, 1) := by decide +kernel
theorem dX1_cardsOn_35 : decode cX1_cardsOn 35 = .ok (.ireturn, 1) := by decide +kernel
def F_X1_cardsOn_L4 (S : aSt) (a0 : Nat) (a1 : Int32) (K34 : Int32 → Option Int32) : Nat → Int32 → Int32 → Option Int32
  | 0, _, _ => none
  | fu + 1, l4_2, l4_3 =>
    if (S.1 a0 7) ≤ l4_3 then (K34 l4_2) else
    rfd (S.2.2 a0 6) 4 fun k13 =>
    rfd (S.2.2 k13 0) 7 fun k16 =>
    grd (inb l4_3 (SH k16).2) <|
    jn (fun (j28_2 : Int32) => (F_X1_cardsOn_L4 S a0 a1 K34 fu j28_2 (l4_3 + (1 : Int32)) : Option Int32)) fun K28 =>
    if (S.1 k16 l4_3.toNatClampNeg) = a1 then (K28 (l4_2 + (1 : Int32))) else
    K28 l4_2
def F_X1_cardsOn (n : Nat) (S : aSt) (a0 : Nat) (a1 : Int32) : Option Int32 :=
jn (fun (x34_2 : Int32) => (some x34_2 : Option Int32)) fun K34 =>
F_X1_cardsOn_L4 S a0 a1 K34 n (0 : Int32) (0 : Int32)
set_option maxHeartbeats 4000000 in
set_option maxRecDepth 100000 in
theorem C_X1_cardsOn (G : aG) (l : Launch) (n : Nat) (S : aSt) (a0 : Nat) (a1 : Int32) (r : Int32) (ha0 : isT a0 0 = true) (hf : F_X1_cardsOn n S a0 a1 = some r) : Ctr G l yX1_cardsOn mX1_cardsOn (rmM 1) 97 97 S [.ref a0, .int a1] (some (.int r)) S := by
  refine Ctr.of (by decide) rfl rfl (Nat.le_of_ble_eq_true rfl) [(0, .ref a0), (1, .int a1)] rfl ?_
  unfold F_X1_cardsOn at hf
  refine Go.iconst (0 : Int32) 1 rfl dX1_cardsOn_0 ci_0 ?_
  refine Go.istore_n 2 [(2, .int (0 : Int32)), (0, .ref a0), (1, .int a1)] rfl dX1_cardsOn_1 (by decide) rfl ?_
  refine Go.iconst (0 : Int32) 3 rfl dX1_cardsOn_2 ci_0 ?_
  refine Go.istore_n 4 [(3, .int (0 : Int32)), (2, .int (0 : Int32)), (0, .ref a0), (1, .int a1)] rfl dX1_cardsOn_3 (by decide) rfl ?_
  obtain ⟨K34, eK34, hf⟩ := f_jn hf
  have J34 : ∀ (x34_2 : Int32), K34 x34_2 = some r → GoM G l 1 (TmR G (some (.int r)) 97 S 0 0) mX1_cardsOn 34 [(2, .int x34_2)] [] S := by
    intro x34_2 hf
    rw [eK34] at hf
    refine Go.iload_n 0 35 rfl dX1_cardsOn_34 rfl ?_
    exact Go.ir rfl dX1_cardsOn_35 hf
  clear eK34
  have L4 : ∀ (fu : Nat) (l4_2 : Int32) (l4_3 : Int32), F_X1_cardsOn_L4 S a0 a1 K34 fu l4_2 l4_3 = some r → GoM G l 1 (TmR G (some (.int r)) 97 S 0 0) mX1_cardsOn 4 [(0, .ref a0), (1, .int a1), (2, .int l4_2), (3, .int l4_3)] [] S := by
    intro fu
    induction fu with
    | zero => intro l4_2 l4_3 hf; rw [F_X1_cardsOn_L4] at hf; cases hf
    | succ fu ih =>
      intro l4_2 l4_3 hf
      rw [F_X1_cardsOn_L4] at hf
      refine Go.iload_n 3 5 rfl dX1_cardsOn_4 rfl ?_
      refine Go.aload_n 0 6 rfl dX1_cardsOn_5 rfl ?_
      refine Go.getI 9 rfl dX1_cardsOn_6 fl_X1_37 rfl (isT_lt ha0) (isT_sh ha0) ?_
      refine Go.icmp_ge 34 12 rfl dX1_cardsOn_9 rfl (fun hc => ?_) (fun hc => ?_)
      · replace hf := f_if hf hc
        exact Go.sub [2] [(2, .int l4_2)] rfl (J34 l4_2 hf)
      · replace hf := f_el hf hc
        refine Go.aload_n 0 13 rfl dX1_cardsOn_12 rfl ?_
        obtain ⟨k13, qk13, hk13, hf⟩ := f_rfd hf
        refine Go.getR 16 rfl dX1_cardsOn_13 fl_X1_33 rfl (isT_lt ha0) (isT_sh ha0) qk13 ?_
        obtain ⟨k16, qk16, hk16, hf⟩ := f_rfd hf
        refine Go.getR 19 rfl dX1_cardsOn_16 fl_X1_79 rfl (isT_lt hk13) (isT_sh hk13) qk16 ?_
        refine Go.iload_n 3 20 rfl dX1_cardsOn_19 rfl ?_
        obtain ⟨g20, hf⟩ := f_grd hf
        refine Go.iald 21 rfl dX1_cardsOn_20 (isT_lt hk16) (isT_sh hk16) g20 ?_
        refine Go.iload_n 1 22 rfl dX1_cardsOn_21 rfl ?_
        obtain ⟨K28, eK28, hf⟩ := f_jn hf
        have J28 : ∀ (j28_2 : Int32), K28 j28_2 = some r → GoM G l 1 (TmR G (some (.int r)) 97 S 0 0) mX1_cardsOn 28 [(0, .ref a0), (1, .int a1), (2, .int j28_2), (3, .int l4_3)] [] S := by
          intro j28_2 hf
          rw [eK28] at hf
          refine Go.inc 3 31 (1 : Int32) [(3, .int (l4_3 + (1 : Int32))), (0, .ref a0), (1, .int a1), (2, .int j28_2)] rfl dX1_cardsOn_28 rfl ci_1 (by decide) rfl ?_
          refine Go.goto 4 dX1_cardsOn_31 rfl ?_
          exact Go.sub [1, 2, 3, 0] [(0, .ref a0), (1, .int a1), (2, .int j28_2), (3, .int (l4_3 + (1 : Int32)))] rfl (ih j28_2 (l4_3 + (1 : Int32)) hf)
        clear eK28
        refine Go.icmp_ne 28 25 rfl dX1_cardsOn_22 rfl (fun hc => ?_) (fun hc => ?_)
        · replace hf := f_el hf hc
          exact J28 l4_2 hf
        · replace hf := f_if hf hc
          refine Go.inc 2 28 (1 : Int32) [(2, .int (l4_2 + (1 : Int32))), (0, .ref a0), (1, .int a1), (3, .int l4_3)] rfl dX1_cardsOn_25 rfl ci_1 (by decide) rfl ?_
          exact Go.sub [1, 2, 0, 3] [(0, .ref a0), (1, .int a1), (2, .int (l4_2 + (1 : Int32))), (3, .int l4_3)] rfl (J28 (l4_2 + (1 : Int32)) hf)
  exact Go.sub [2, 3, 1, 0] [(0, .ref a0), (1, .int a1), (2, .int (0 : Int32)), (3, .int (0 : Int32))] rfl (L4 n (0 : Int32) (0 : Int32) hf)
theorem dX1_placesSaying_0 : decode cX1_placesSaying 0 = .ok (.iconst 0, 1) := by decide +kernel
theorem dX1_placesSaying_1 : decode cX1_placesSaying 1 = .ok (.istore_n 2, 1) := by decide +kernel
theorem dX1_placesSaying_2 : decode cX1_placesSaying 2 = .ok (.iconst 0, 1) := by decide +kernel
theorem dX1_placesSaying_3 : decode cX1_placesSaying 3 = .ok (.istore_n 3, 1) := by decide +kernel
theorem dX1_placesSaying_4 : decode cX1_placesSaying 4 = .ok (.iload_n 3, 1) := by decide +kernel
theorem dX1_placesSaying_5 : decode cX1_placesSaying 5 = .ok (.aload_n 0, 1) := by decide +kernel
theorem dX1_placesSaying_6 : decode cX1_placesSaying 6 = .ok (.getfield 37, 3) := by decide +kernel
theorem dX1_placesSaying_9 : decode cX1_placesSaying 9 = .ok (.if_icmp .ge 35, 3) := by decide +kernel
theorem dX1_placesSaying_12 : decode cX1_placesSaying 12 = .ok (.aload_n 0, 1) := by decide +kernel
theorem dX1_placesSaying_13 : decode cX1_placesSaying 13 = .ok (.getfield 9, 3) := by decide +kernel
theorem dX1_placesSaying_16 : decode cX1_placesSaying 16 = .ok (.iload_n 3, 1) := by decide +kernel
theorem dX1_placesSaying_17 : decode cX1_placesSaying 17 = .ok (.iaload, 1) := by decide +kernel
theorem dX1_placesSaying_18 : decode cX1_placesSaying 18 = .ok (.iconst 2, 1) := by decide +kernel
theorem dX1_placesSaying_19 : decode cX1_placesSaying 19 = .ok (.invokestatic 111, 3) := by decide +kernel
theorem dX1_placesSaying_22 : decode cX1_placesSaying 22 = .ok (.ifCond .eq 16, 3) := by decide +kernel
theorem dX1_placesSaying_25 : decode cX1_placesSaying 25 = .ok (.aload_n 0, 1) := by decide +kernel
theorem dX1_placesSaying_26 : decode cX1_placesSaying 26 = .ok (.getfield 15, 3) := by decide +kernel
theorem dX1_placesSaying_29 : decode cX1_placesSaying 29 = .ok (.iload_n 3, 1) := by decide +kernel
theorem dX1_placesSaying_30 : decode cX1_placesSaying 30 = .ok (.iaload, 1) := by decide +kernel
theorem dX1_placesSaying_31 : decode cX1_placesSaying 31 = .ok (.iload_n 1, 1) := by decide +kernel
theorem dX1_placesSaying_32 : decode cX1_placesSaying 32 = .ok (.if_icmp .ne 6, 3) := by decide +kernel
theorem dX1_placesSaying_35 : decode cX1_placesSaying 35 = .ok (.iinc 2 1, 3) := by decide +kernel
theorem dX1_placesSaying_38 : decode cX1_placesSaying 38 = .ok (.iinc 3 1, 3) := by decide +kernel
theorem dX1_placesSaying_41 : decode cX1_placesSaying 41 = .ok (.goto (-37), 3) := by decide +kernel
theorem dX1_placesSaying_44 : decode cX1_placesSaying 44 = .ok (.iload_n 2, 1) := by decide +kernel
theorem dX1_placesSaying_45 : decode cX1_placesSaying 45 = .ok (.ireturn, 1) := by decide +kernel
def F_X1_placesSaying_L4 (n : Nat) (S : aSt) (a0 : Nat) (a1 : Int32) (K44 : Int32 → Option Int32) : Nat → Int32 → Int32 → Option Int32
  | 0, _, _ => none
  | fu + 1, l4_2, l4_3 =>
    if (S.1 a0 7) ≤ l4_3 then (K44 l4_2) else
    rfd (S.2.2 a0 0) 7 fun k13 =>
    grd (inb l4_3 (SH k13).2) <|
    (F_X0_isA n S (S.1 k13 l4_3.toNatClampNeg) (2 : Int32)).bind fun r19 =>
    jn (fun (j38_2 : Int32) => (F_X1_placesSaying_L4 n S a0 a1 K44 fu j38_2 (l4_3 + (1 : Int32)) : Option Int32)) fun K38 =>
    if r19 = 0 then (K38 l4_2) else
    rfd (S.2.2 a0 1) 7 fun k26 =>
    grd (inb l4_3 (SH k26).2) <|
    if (S.1 k26 l4_3.toNatClampNeg) = a1 then (K38 (l4_2 + (1 : Int32))) else
    K38 l4_2
def F_X1_placesSaying (n : Nat) (S : aSt) (a0 : Nat) (a1 : Int32) : Option Int32 :=
jn (fun (x44_2 : Int32) => (some x44_2 : Option Int32)) fun K44 =>
F_X1_placesSaying_L4 n S a0 a1 K44 n (0 : Int32) (0 : Int32)
set_option maxHeartbeats 4000000 in
set_option maxRecDepth 100000 in
theorem C_X1_placesSaying (G : aG) (l : Launch) (n : Nat) (S : aSt) (a0 : Nat) (a1 : Int32) (r : Int32) (ha0 : isT a0 0 = true) (hf : F_X1_placesSaying n S a0 a1 = some r) : Ctr G l yX1_placesSaying mX1_placesSaying (rmM 2) 97 97 S [.ref a0, .int a1] (some (.int r)) S := by
  refine Ctr.of (by decide) rfl rfl (Nat.le_of_ble_eq_true rfl) [(0, .ref a0), (1, .int a1)] rfl ?_
  unfold F_X1_placesSaying at hf
  refine Go.iconst (0 : Int32) 1 rfl dX1_placesSaying_0 ci_0 ?_
  refine Go.istore_n 2 [(2, .int (0 : Int32)), (0, .ref a0), (1, .int a1)] rfl dX1_placesSaying_1 (by decide) rfl ?_
  refine Go.iconst (0 : Int32) 3 rfl dX1_placesSaying_2 ci_0 ?_
  refine Go.istore_n 4 [(3, .int (0 : Int32)), (2, .int (0 : Int32)), (0, .ref a0), (1, .int a1)] rfl dX1_placesSaying_3 (by decide) rfl ?_
  obtain ⟨K44, eK44, hf⟩ := f_jn hf
  have J44 : ∀ (x44_2 : Int32), K44 x44_2 = some r → GoM G l 2 (TmR G (some (.int r)) 97 S 0 0) mX1_placesSaying 44 [(2, .int x44_2)] [] S := by
    intro x44_2 hf
    rw [eK44] at hf
    refine Go.iload_n 0 45 rfl dX1_placesSaying_44 rfl ?_
    exact Go.ir rfl dX1_placesSaying_45 hf
  clear eK44
  have L4 : ∀ (fu : Nat) (l4_2 : Int32) (l4_3 : Int32), F_X1_placesSaying_L4 n S a0 a1 K44 fu l4_2 l4_3 = some r → GoM G l 2 (TmR G (some (.int r)) 97 S 0 0) mX1_placesSaying 4 [(0, .ref a0), (1, .int a1), (2, .int l4_2), (3, .int l4_3)] [] S := by
    intro fu
    induction fu with
    | zero => intro l4_2 l4_3 hf; rw [F_X1_placesSaying_L4] at hf; cases hf
    | succ fu ih =>
      intro l4_2 l4_3 hf
      rw [F_X1_placesSaying_L4] at hf
      refine Go.iload_n 3 5 rfl dX1_placesSaying_4 rfl ?_
      refine Go.aload_n 0 6 rfl dX1_placesSaying_5 rfl ?_
      refine Go.getI 9 rfl dX1_placesSaying_6 fl_X1_37 rfl (isT_lt ha0) (isT_sh ha0) ?_
      refine Go.icmp_ge 44 12 rfl dX1_placesSaying_9 rfl (fun hc => ?_) (fun hc => ?_)
      · replace hf := f_if hf hc
        exact Go.sub [2] [(2, .int l4_2)] rfl (J44 l4_2 hf)
      · replace hf := f_el hf hc
        refine Go.aload_n 0 13 rfl dX1_placesSaying_12 rfl ?_
        obtain ⟨k13, qk13, hk13, hf⟩ := f_rfd hf
        refine Go.getR 16 rfl dX1_placesSaying_13 fl_X1_9 rfl (isT_lt ha0) (isT_sh ha0) qk13 ?_
        refine Go.iload_n 3 17 rfl dX1_placesSaying_16 rfl ?_
        obtain ⟨g17, hf⟩ := f_grd hf
        refine Go.iald 18 rfl dX1_placesSaying_17 (isT_lt hk13) (isT_sh hk13) g17 ?_
        refine Go.iconst (2 : Int32) 19 rfl dX1_placesSaying_18 ci_2 ?_
        obtain ⟨r19, er19, hf⟩ := f_bnd hf
        refine Go.cS 22 [.int (S.1 k13 l4_3.toNatClampNeg), .int (2 : Int32)] [] (C_X0_isA G l n S (S.1 k13 l4_3.toNatClampNeg) (2 : Int32) r19  er19) rfl dX1_placesSaying_19 cx_X1_111 (by decide) (by decide) rfl (Nat.le_of_ble_eq_true rfl) ?_
        obtain ⟨K38, eK38, hf⟩ := f_jn hf
        have J38 : ∀ (j38_2 : Int32), K38 j38_2 = some r → GoM G l 2 (TmR G (some (.int r)) 97 S 0 0) mX1_placesSaying 38 [(0, .ref a0), (1, .int a1), (2, .int j38_2), (3, .int l4_3)] [] S := by
          intro j38_2 hf
          rw [eK38] at hf
          refine Go.inc 3 41 (1 : Int32) [(3, .int (l4_3 + (1 : Int32))), (0, .ref a0), (1, .int a1), (2, .int j38_2)] rfl dX1_placesSaying_38 rfl ci_1 (by decide) rfl ?_
          refine Go.goto 4 dX1_placesSaying_41 rfl ?_
          exact Go.sub [1, 2, 3, 0] [(0, .ref a0), (1, .int a1), (2, .int j38_2), (3, .int (l4_3 + (1 : Int32)))] rfl (ih j38_2 (l4_3 + (1 : Int32)) hf)
        clear eK38
        refine Go.if_eq 38 25 rfl dX1_placesSaying_22 rfl (fun hc => ?_) (fun hc => ?_)
        · replace hf := f_if hf hc
          exact J38 l4_2 hf
        · replace hf := f_el hf hc
          refine Go.aload_n 0 26 rfl dX1_placesSaying_25 rfl ?_
          obtain ⟨k26, qk26, hk26, hf⟩ := f_rfd hf
          refine Go.getR 29 rfl dX1_placesSaying_26 fl_X1_15 rfl (isT_lt ha0) (isT_sh ha0) qk26 ?_
          refine Go.iload_n 3 30 rfl dX1_placesSaying_29 rfl ?_
          obtain ⟨g30, hf⟩ := f_grd hf
          refine Go.iald 31 rfl dX1_placesSaying_30 (isT_lt hk26) (isT_sh hk26) g30 ?_
          refine Go.iload_n 1 32 rfl dX1_placesSaying_31 rfl ?_
          refine Go.icmp_ne 38 35 rfl dX1_placesSaying_32 rfl (fun hc => ?_) (fun hc => ?_)
          · replace hf := f_el hf hc
            exact J38 l4_2 hf
          · replace hf := f_if hf hc
            refine Go.inc 2 38 (1 : Int32) [(2, .int (l4_2 + (1 : Int32))), (0, .ref a0), (1, .int a1), (3, .int l4_3)] rfl dX1_placesSaying_35 rfl ci_1 (by decide) rfl ?_
            exact Go.sub [1, 2, 0, 3] [(0, .ref a0), (1, .int a1), (2, .int (l4_2 + (1 : Int32))), (3, .int l4_3)] rfl (J38 (l4_2 + (1 : Int32)) hf)
  exact Go.sub [2, 3, 1, 0] [(0, .ref a0), (1, .int a1), (2, .int (0 : Int32)), (3, .int (0 : Int32))] rfl (L4 n (0 : Int32) (0 : Int32) hf)
theorem dX1_yesMeaning_0 : decode cX1_yesMeaning 0 = .ok (.iconst 0, 1) := by decide +kernel
theorem dX1_yesMeaning_1 : decode cX1_yesMeaning 1 = .ok (.istore_n 2, 1) := by decide +kernel
theorem dX1_yesMeaning_2 : decode cX1_yesMeaning 2 = .ok (.iconst 0, 1) := by decide +kernel
theorem dX1_yesMeaning_3 : decode cX1_yesMeaning 3 = .ok (.istore_n 3, 1) := by decide +kernel
theorem dX1_yesMeaning_4 : decode cX1_yesMeaning 4 = .ok (.iload_n 3, 1) := by decide +kernel
theorem dX1_yesMeaning_5 : decode cX1_yesMeaning 5 = .ok (.aload_n 0, 1) := by decide +kernel
theorem dX1_yesMeaning_6 : decode cX1_yesMeaning 6 = .ok (.getfield 37, 3) := by decide +kernel
theorem dX1_yesMeaning_9 : decode cX1_yesMeaning 9 = .ok (.if_icmp .ge 34, 3) := by decide +kernel
theorem dX1_yesMeaning_12 : decode cX1_yesMeaning 12 = .ok (.aload_n 0, 1) := by decide +kernel
theorem dX1_yesMeaning_13 : decode cX1_yesMeaning 13 = .ok (.getfield 9, 3) := by decide +kernel
theorem dX1_yesMeaning_16 : decode cX1_yesMeaning 16 = .ok (.iload_n 3, 1) := by decide +kernel
theorem dX1_yesMeaning_17 : decode cX1_yesMeaning 17 = .ok (.iaload, 1) := by decide +kernel
theorem dX1_yesMeaning_18 : decode cX1_yesMeaning 18 = .ok (.iconst 1, 1) := by decide +kernel
theorem dX1_yesMeaning_19 : decode cX1_yesMeaning 19 = .ok (.invokestatic 111, 3) := by decide +kernel
theorem dX1_yesMeaning_22 : decode cX1_yesMeaning 22 = .ok (.ifCond .eq 15, 3) := by decide +kernel
theorem dX1_yesMeaning_25 : decode cX1_yesMeaning 25 = .ok (.aload_n 0, 1) := by decide +kernel
theorem dX1_yesMeaning_26 : decode cX1_yesMeaning 26 = .ok (.iload_n 3, 1) := by decide +kernel
theorem dX1_yesMeaning_27 : decode cX1_yesMeaning 27 = .ok (.invokevirtual 108, 3) := by decide +kernel
theorem dX1_yesMeaning_30 : decode cX1_yesMeaning 30 = .ok (.iload_n 1, 1) := by decide +kernel
theorem dX1_yesMeaning_31 : decode cX1_yesMeaning 31 = .ok (.if_icmp .ne 6, 3) := by decide +kernel
theorem dX1_yesMeaning_34 : decode cX1_yesMeaning 34 = .ok (.iinc 2 1, 3) := by decide +kernel
theorem dX1_yesMeaning_37 : decode cX1_yesMeaning 37 = .ok (.iinc 3 1, 3) := by decide +kernel
theorem dX1_yesMeaning_40 : decode cX1_yesMeaning 40 = .ok (.goto (-36), 3) := by decide +kernel
theorem dX1_yesMeaning_43 : decode cX1_yesMeaning 43 = .ok (.iload_n 2, 1) := by decide +kernel
theorem dX1_yesMeaning_44 : decode cX1_yesMeaning 44 = .ok (.ireturn, 1) := by decide +kernel
def F_X1_yesMeaning_L4 (n : Nat) (S : aSt) (a0 : Nat) (a1 : Int32) (K43 : Int32 → Option Int32) : Nat → Int32 → Int32 → Option Int32
  | 0, _, _ => none
  | fu + 1, l4_2, l4_3 =>
    if (S.1 a0 7) ≤ l4_3 then (K43 l4_2) else
    rfd (S.2.2 a0 0) 7 fun k13 =>
    grd (inb l4_3 (SH k13).2) <|
    (F_X0_isA n S (S.1 k13 l4_3.toNatClampNeg) (1 : Int32)).bind fun r19 =>
    jn (fun (j37_2 : Int32) => (F_X1_yesMeaning_L4 n S a0 a1 K43 fu j37_2 (l4_3 + (1 : Int32)) : Option Int32)) fun K37 =>
    if r19 = 0 then (K37 l4_2) else
    (F_X1_meaningOf n S a0 l4_3).bind fun r27 =>
    if r27 = a1 then (K37 (l4_2 + (1 : Int32))) else
    K37 l4_2
def F_X1_yesMeaning (n : Nat) (S : aSt) (a0 : Nat) (a1 : Int32) : Option Int32 :=
jn (fun (x43_2 : Int32) => (some x43_2 : Option Int32)) fun K43 =>
F_X1_yesMeaning_L4 n S a0 a1 K43 n (0 : Int32) (0 : Int32)
set_option maxHeartbeats 4000000 in
set_option maxRecDepth 100000 in
theorem C_X1_yesMeaning (G : aG) (l : Launch) (n : Nat) (S : aSt) (a0 : Nat) (a1 : Int32) (r : Int32) (ha0 : isT a0 0 = true) (hf : F_X1_yesMeaning n S a0 a1 = some r) : Ctr G l yX1_yesMeaning mX1_yesMeaning (rmM 3) 97 97 S [.ref a0, .int a1] (some (.int r)) S := by
  refine Ctr.of (by decide) rfl rfl (Nat.le_of_ble_eq_true rfl) [(0, .ref a0), (1, .int a1)] rfl ?_
  unfold F_X1_yesMeaning at hf
  refine Go.iconst (0 : Int32) 1 rfl dX1_yesMeaning_0 ci_0 ?_
  refine Go.istore_n 2 [(2, .int (0 : Int32)), (0, .ref a0), (1, .int a1)] rfl dX1_yesMeaning_1 (by decide) rfl ?_
  refine Go.iconst (0 : Int32) 3 rfl dX1_yesMeaning_2 ci_0 ?_
  refine Go.istore_n 4 [(3, .int (0 : Int32)), (2, .int (0 : Int32)), (0, .ref a0), (1, .int a1)] rfl dX1_yesMeaning_3 (by decide) rfl ?_
  obtain ⟨K43, eK43, hf⟩ := f_jn hf
  have J43 : ∀ (x43_2 : Int32), K43 x43_2 = some r → GoM G l 3 (TmR G (some (.int r)) 97 S 0 0) mX1_yesMeaning 43 [(2, .int x43_2)] [] S := by
    intro x43_2 hf
    rw [eK43] at hf
    refine Go.iload_n 0 44 rfl dX1_yesMeaning_43 rfl ?_
    exact Go.ir rfl dX1_yesMeaning_44 hf
  clear eK43
  have L4 : ∀ (fu : Nat) (l4_2 : Int32) (l4_3 : Int32), F_X1_yesMeaning_L4 n S a0 a1 K43 fu l4_2 l4_3 = some r → GoM G l 3 (TmR G (some (.int r)) 97 S 0 0) mX1_yesMeaning 4 [(0, .ref a0), (1, .int a1), (2, .int l4_2), (3, .int l4_3)] [] S := by
    intro fu
    induction fu with
    | zero => intro l4_2 l4_3 hf; rw [F_X1_yesMeaning_L4] at hf; cases hf
    | succ fu ih =>
      intro l4_2 l4_3 hf
      rw [F_X1_yesMeaning_L4] at hf
      refine Go.iload_n 3 5 rfl dX1_yesMeaning_4 rfl ?_
      refine Go.aload_n 0 6 rfl dX1_yesMeaning_5 rfl ?_
      refine Go.getI 9 rfl dX1_yesMeaning_6 fl_X1_37 rfl (isT_lt ha0) (isT_sh ha0) ?_
      refine Go.icmp_ge 43 12 rfl dX1_yesMeaning_9 rfl (fun hc => ?_) (fun hc => ?_)
      · replace hf := f_if hf hc
        exact Go.sub [2] [(2, .int l4_2)] rfl (J43 l4_2 hf)
      · replace hf := f_el hf hc
        refine Go.aload_n 0 13 rfl dX1_yesMeaning_12 rfl ?_
        obtain ⟨k13, qk13, hk13, hf⟩ := f_rfd hf
        refine Go.getR 16 rfl dX1_yesMeaning_13 fl_X1_9 rfl (isT_lt ha0) (isT_sh ha0) qk13 ?_
        refine Go.iload_n 3 17 rfl dX1_yesMeaning_16 rfl ?_
        obtain ⟨g17, hf⟩ := f_grd hf
        refine Go.iald 18 rfl dX1_yesMeaning_17 (isT_lt hk13) (isT_sh hk13) g17 ?_
        refine Go.iconst (1 : Int32) 19 rfl dX1_yesMeaning_18 ci_1 ?_
        obtain ⟨r19, er19, hf⟩ := f_bnd hf
        refine Go.cS 22 [.int (S.1 k13 l4_3.toNatClampNeg), .int (1 : Int32)] [] (C_X0_isA G l n S (S.1 k13 l4_3.toNatClampNeg) (1 : Int32) r19  er19) rfl dX1_yesMeaning_19 cx_X1_111 (by decide) (by decide) rfl (Nat.le_of_ble_eq_true rfl) ?_
        obtain ⟨K37, eK37, hf⟩ := f_jn hf
        have J37 : ∀ (j37_2 : Int32), K37 j37_2 = some r → GoM G l 3 (TmR G (some (.int r)) 97 S 0 0) mX1_yesMeaning 37 [(0, .ref a0), (1, .int a1), (2, .int j37_2), (3, .int l4_3)] [] S := by
          intro j37_2 hf
          rw [eK37] at hf
          refine Go.inc 3 40 (1 : Int32) [(3, .int (l4_3 + (1 : Int32))), (0, .ref a0), (1, .int a1), (2, .int j37_2)] rfl dX1_yesMeaning_37 rfl ci_1 (by decide) rfl ?_
          refine Go.goto 4 dX1_yesMeaning_40 rfl ?_
          exact Go.sub [1, 2, 3, 0] [(0, .ref a0), (1, .int a1), (2, .int j37_2), (3, .int (l4_3 + (1 : Int32)))] rfl (ih j37_2 (l4_3 + (1 : Int32)) hf)
        clear eK37
        refine Go.if_eq 37 25 rfl dX1_yesMeaning_22 rfl (fun hc => ?_) (fun hc => ?_)
        · replace hf := f_if hf hc
          exact J37 l4_2 hf
        · replace hf := f_el hf hc
          refine Go.aload_n 0 26 rfl dX1_yesMeaning_25 rfl ?_
          refine Go.iload_n 3 27 rfl dX1_yesMeaning_26 rfl ?_
          obtain ⟨r27, er27, hf⟩ := f_bnd hf
          refine Go.cV 30 [.int l4_3] [] (C_X1_meaningOf G l n S a0 l4_3 r27 ha0 er27) rfl dX1_yesMeaning_27 cv_X1_108 ha0 (by decide) (by decide) rfl (Nat.le_of_ble_eq_true rfl) ?_
          refine Go.iload_n 1 31 rfl dX1_yesMeaning_30 rfl ?_
          refine Go.icmp_ne 37 34 rfl dX1_yesMeaning_31 rfl (fun hc => ?_) (fun hc => ?_)
          · replace hf := f_el hf hc
            exact J37 l4_2 hf
          · replace hf := f_if hf hc
            refine Go.inc 2 37 (1 : Int32) [(2, .int (l4_2 + (1 : Int32))), (0, .ref a0), (1, .int a1), (3, .int l4_3)] rfl dX1_yesMeaning_34 rfl ci_1 (by decide) rfl ?_
            exact Go.sub [1, 2, 0, 3] [(0, .ref a0), (1, .int a1), (2, .int (l4_2 + (1 : Int32))), (3, .int l4_3)] rfl (J37 (l4_2 + (1 : Int32)) hf)
  exact Go.sub [2, 3, 1, 0] [(0, .ref a0), (1, .int a1), (2, .int (0 : Int32)), (3, .int (0 : Int32))] rfl (L4 n (0 : Int32) (0 : Int32) hf)
theorem dX1_markOf_0 : decode cX1_markOf 0 = .ok (.iload_n 2, 1) := by decide +kernel
theorem dX1_markOf_1 : decode cX1_markOf 1 = .ok (.tableswitch 79 1 4 #[31, 41, 57, 63], 31) := by decide +kernel
theorem dX1_markOf_32 : decode cX1_markOf 32 = .ok (.aload_n 0, 1) := by decide +kernel
theorem dX1_markOf_33 : decode cX1_markOf 33 = .ok (.aload_n 0, 1) := by decide +kernel
theorem dX1_markOf_34 : decode cX1_markOf 34 = .ok (.iload_n 1, 1) := by decide +kernel
theorem dX1_markOf_35 : decode cX1_markOf 35 = .ok (.invokevirtual 108, 3) := by decide +kernel
theorem dX1_markOf_38 : decode cX1_markOf 38 = .ok (.invokevirtual 124, 3) := by decide +kernel
theorem dX1_markOf_41 : decode cX1_markOf 41 = .ok (.ireturn, 1) := by decide +kernel
theorem dX1_markOf_42 : decode cX1_markOf 42 = .ok (.aload_n 0, 1) := by decide +kernel
theorem dX1_markOf_43 : decode cX1_markOf 43 = .ok (.aload_n 0, 1) := by decide +kernel
theorem dX1_markOf_44 : decode cX1_markOf 44 = .ok (.getfield 33, 3) := by decide +kernel
theorem dX1_markOf_47 : decode cX1_markOf 47 = .ok (.getfield 79, 3) := by decide +kernel
theorem dX1_markOf_50 : decode cX1_markOf 50 = .ok (.iload_n 1, 1) := by decide +kernel
theorem dX1_markOf_51 : decode cX1_markOf 51 = .ok (.iaload, 1) := by decide +kernel
theorem dX1_markOf_52 : decode cX1_markOf 52 = .ok (.invokevirtual 127, 3) := by decide +kernel
theorem dX1_markOf_55 : decode cX1_markOf 55 = .ok (.iconst 1, 1) := by decide +kernel
theorem dX1_markOf_56 : decode cX1_markOf 56 = .ok (.isub, 1) := by decide +kernel
theorem dX1_markOf_57 : decode cX1_markOf 57 = .ok (.ireturn, 1) := by decide +kernel
theorem dX1_markOf_58 : decode cX1_markOf 58 = .ok (.aload_n 0, 1) := by decide +kernel
theorem dX1_markOf_59 : decode cX1_markOf 59 = .ok (.iload_n 1, 1) := by decide +kernel
theorem dX1_markOf_60 : decode cX1_markOf 60 = .ok (.invokevirtual 130, 3) := by decide +kernel
theorem dX1_markOf_63 : decode cX1_markOf 63 = .ok (.ireturn, 1) := by decide +kernel
theorem dX1_markOf_64 : decode cX1_markOf 64 = .ok (.aload_n 0, 1) := by decide +kernel
theorem dX1_markOf_65 : decode cX1_markOf 65 = .ok (.iload_n 1, 1) := by decide +kernel
theorem dX1_markOf_66 : decode cX1_markOf 66 = .ok (.invokevirtual 108, 3) := by decide +kernel
theorem dX1_markOf_69 : decode cX1_markOf 69 = .ok (.aload_n 0, 1) := by decide +kernel
theorem dX1_markOf_70 : decode cX1_markOf 70 = .ok (.getfield 15, 3) := by decide +kernel
theorem dX1_markOf_73 : decode cX1_markOf 73 = .ok (.iload_n 1, 1) := by decide +kernel
theorem dX1_markOf_74 : decode cX1_markOf 74 = .ok (.iaload, 1) := by decide +kernel
theorem dX1_markOf_75 : decode cX1_markOf 75 = .ok (.isub, 1) := by decide +kernel
theorem dX1_markOf_76 : decode cX1_markOf 76 = .ok (.bipush 10, 2) := by decide +kernel
theorem dX1_markOf_78 : decode cX1_markOf 78 = .ok (.iadd, 1) := by decide +kernel
theorem dX1_markOf_79 : decode cX1_markOf 79 = .ok (.ireturn, 1) := by decide +kernel
theorem dX1_markOf_80 : decode cX1_markOf 80 = .ok (.aload_n 0, 1) := by decide +kernel
theorem dX1_markOf_81 : decode cX1_markOf 81 = .ok (.aload_n 0, 1) := by decide +kernel
theorem dX1_markOf_82 : decode cX1_markOf 82 = .ok (.iload_n 1, 1) := by decide +kernel
theorem dX1_markOf_83 : decode cX1_markOf 83 = .ok (.invokevirtual 108, 3) := by decide +kernel
theorem dX1_markOf_86 : decode cX1_markOf 86 = .ok (.invokevirtual 133, 3) := by decide +kernel
theorem dX1_markOf_89 : decode cX1_markOf 89 = .ok (.ireturn, 1) := by decide +kernel
def F_X1_markOf (n : Nat) (S : aSt) (a0 : Nat) (a1 : Int32) (a2 : Int32) : Option Int32 :=
if a2 = (1 : Int32) then ((F_X1_meaningOf n S a0 a1).bind fun r35 =>
(F_X1_yesMeaning n S a0 r35).bind fun r38 =>
some r38) else
if a2 = (2 : Int32) then (rfd (S.2.2 a0 6) 4 fun k44 =>
rfd (S.2.2 k44 0) 7 fun k47 =>
grd (inb a1 (SH k47).2) <|
(F_X1_cardsOn n S a0 (S.1 k47 a1.toNatClampNeg)).bind fun r52 =>
some (r52 - (1 : Int32))) else
if a2 = (3 : Int32) then ((F_X1_questionsFitted n S a0 a1).bind fun r60 =>
some r60) else
if a2 = (4 : Int32) then ((F_X1_meaningOf n S a0 a1).bind fun r66 =>
rfd (S.2.2 a0 1) 7 fun k70 =>
grd (inb a1 (SH k70).2) <|
some ((r66 - (S.1 k70 a1.toNatClampNeg)) + (10 : Int32))) else
(F_X1_meaningOf n S a0 a1).bind fun r83 =>
(F_X1_placesSaying n S a0 r83).bind fun r86 =>
some r86
set_option maxHeartbeats 4000000 in
set_option maxRecDepth 100000 in
theorem C_X1_markOf (G : aG) (l : Launch) (n : Nat) (S : aSt) (a0 : Nat) (a1 : Int32) (a2 : Int32) (r : Int32) (ha0 : isT a0 0 = true) (hf : F_X1_markOf n S a0 a1 a2 = some r) : Ctr G l yX1_markOf mX1_markOf (rmM 5) 97 97 S [.ref a0, .int a1, .int a2] (some (.int r)) S := by
  refine Ctr.of (by decide) rfl rfl (Nat.le_of_ble_eq_true rfl) [(0, .ref a0), (1, .int a1), (2, .int a2)] rfl ?_
  unfold F_X1_markOf at hf
  refine Go.iload_n 2 1 rfl dX1_markOf_0 rfl ?_
  by_cases hs1_0 : a2 = (1 : Int32)
  · replace hf := f_if hf hs1_0
    refine Go.tin (1 : Int32) 32 hs1_0 dX1_markOf_1 (by decide) (by decide) rfl rfl ?_
    refine Go.aload_n 0 33 rfl dX1_markOf_32 rfl ?_
    refine Go.aload_n 0 34 rfl dX1_markOf_33 rfl ?_
    refine Go.iload_n 1 35 rfl dX1_markOf_34 rfl ?_
    obtain ⟨r35, er35, hf⟩ := f_bnd hf
    refine Go.cV 38 [.int a1] [.ref a0] (C_X1_meaningOf G l n S a0 a1 r35 ha0 er35) rfl dX1_markOf_35 cv_X1_108 ha0 (by decide) (by decide) rfl (Nat.le_of_ble_eq_true rfl) ?_
    obtain ⟨r38, er38, hf⟩ := f_bnd hf
    refine Go.cV 41 [.int r35] [] (C_X1_yesMeaning G l n S a0 r35 r38 ha0 er38) rfl dX1_markOf_38 cv_X1_124 ha0 (by decide) (by decide) rfl (Nat.le_of_ble_eq_true rfl) ?_
    exact Go.ir rfl dX1_markOf_41 hf
  replace hf := f_el hf hs1_0
  by_cases hs1_1 : a2 = (2 : Int32)
  · replace hf := f_if hf hs1_1
    refine Go.tin (2 : Int32) 42 hs1_1 dX1_markOf_1 (by decide) (by decide) rfl rfl ?_
    refine Go.aload_n 0 43 rfl dX1_markOf_42 rfl ?_
    refine Go.aload_n 0 44 rfl dX1_markOf_43 rfl ?_
    obtain ⟨k44, qk44, hk44, hf⟩ := f_rfd hf
    refine Go.getR 47 rfl dX1_markOf_44 fl_X1_33 rfl (isT_lt ha0) (isT_sh ha0) qk44 ?_
    obtain ⟨k47, qk47, hk47, hf⟩ := f_rfd hf
    refine Go.getR 50 rfl dX1_markOf_47 fl_X1_79 rfl (isT_lt hk44) (isT_sh hk44) qk47 ?_
    refine Go.iload_n 1 51 rfl dX1_markOf_50 rfl ?_
    obtain ⟨g51, hf⟩ := f_grd hf
    refine Go.iald 52 rfl dX1_markOf_51 (isT_lt hk47) (isT_sh hk47) g51 ?_
    obtain ⟨r52, er52, hf⟩ := f_bnd hf
    refine Go.cV 55 [.int (S.1 k47 a1.toNatClampNeg)] [] (C_X1_cardsOn G l n S a0 (S.1 k47 a1.toNatClampNeg) r52 ha0 er52) rfl dX1_markOf_52 cv_X1_127 ha0 (by decide) (by decide) rfl (Nat.le_of_ble_eq_true rfl) ?_
    refine Go.iconst (1 : Int32) 56 rfl dX1_markOf_55 ci_1 ?_
    refine Go.isub 57 rfl dX1_markOf_56 ?_
    exact Go.ir rfl dX1_markOf_57 hf
  replace hf := f_el hf hs1_1
  by_cases hs1_2 : a2 = (3 : Int32)
  · replace hf := f_if hf hs1_2
    refine Go.tin (3 : Int32) 58 hs1_2 dX1_markOf_1 (by decide) (by decide) rfl rfl ?_
    refine Go.aload_n 0 59 rfl dX1_markOf_58 rfl ?_
    refine Go.iload_n 1 60 rfl dX1_markOf_59 rfl ?_
    obtain ⟨r60, er60, hf⟩ := f_bnd hf
    refine Go.cV 63 [.int a1] [] (C_X1_questionsFitted G l n S a0 a1 r60 ha0 er60) rfl dX1_markOf_60 cv_X1_130 ha0 (by decide) (by decide) rfl (Nat.le_of_ble_eq_true rfl) ?_
    exact Go.ir rfl dX1_markOf_63 hf
  replace hf := f_el hf hs1_2
  by_cases hs1_3 : a2 = (4 : Int32)
  · replace hf := f_if hf hs1_3
    refine Go.tin (4 : Int32) 64 hs1_3 dX1_markOf_1 (by decide) (by decide) rfl rfl ?_
    refine Go.aload_n 0 65 rfl dX1_markOf_64 rfl ?_
    refine Go.iload_n 1 66 rfl dX1_markOf_65 rfl ?_
    obtain ⟨r66, er66, hf⟩ := f_bnd hf
    refine Go.cV 69 [.int a1] [] (C_X1_meaningOf G l n S a0 a1 r66 ha0 er66) rfl dX1_markOf_66 cv_X1_108 ha0 (by decide) (by decide) rfl (Nat.le_of_ble_eq_true rfl) ?_
    refine Go.aload_n 0 70 rfl dX1_markOf_69 rfl ?_
    obtain ⟨k70, qk70, hk70, hf⟩ := f_rfd hf
    refine Go.getR 73 rfl dX1_markOf_70 fl_X1_15 rfl (isT_lt ha0) (isT_sh ha0) qk70 ?_
    refine Go.iload_n 1 74 rfl dX1_markOf_73 rfl ?_
    obtain ⟨g74, hf⟩ := f_grd hf
    refine Go.iald 75 rfl dX1_markOf_74 (isT_lt hk70) (isT_sh hk70) g74 ?_
    refine Go.isub 76 rfl dX1_markOf_75 ?_
    refine Go.bipush (10 : Int32) 78 rfl dX1_markOf_76 cb_10 ?_
    refine Go.iadd 79 rfl dX1_markOf_78 ?_
    exact Go.ir rfl dX1_markOf_79 hf
  replace hf := f_el hf hs1_3
  have nhs1_0 := tsw_ne (z := 1) hs1_0 (by decide)
  have nhs1_1 := tsw_ne (z := 2) hs1_1 (by decide)
  have nhs1_2 := tsw_ne (z := 3) hs1_2 (by decide)
  have nhs1_3 := tsw_ne (z := 4) hs1_3 (by decide)
  refine Go.tout 80 dX1_markOf_1 (by omega) rfl ?_
  refine Go.aload_n 0 81 rfl dX1_markOf_80 rfl ?_
  refine Go.aload_n 0 82 rfl dX1_markOf_81 rfl ?_
  refine Go.iload_n 1 83 rfl dX1_markOf_82 rfl ?_
  obtain ⟨r83, er83, hf⟩ := f_bnd hf
  refine Go.cV 86 [.int a1] [.ref a0] (C_X1_meaningOf G l n S a0 a1 r83 ha0 er83) rfl dX1_markOf_83 cv_X1_108 ha0 (by decide) (by decide) rfl (Nat.le_of_ble_eq_true rfl) ?_
  obtain ⟨r86, er86, hf⟩ := f_bnd hf
  refine Go.cV 89 [.int r83] [] (C_X1_placesSaying G l n S a0 r83 r86 ha0 er86) rfl dX1_markOf_86 cv_X1_133 ha0 (by decide) (by decide) rfl (Nat.le_of_ble_eq_true rfl) ?_
  exact Go.ir rfl dX1_markOf_89 hf
theorem dX1_placesAmong_0 : decode cX1_placesAmong 0 = .ok (.iconst 0, 1) := by decide +kernel
theorem dX1_placesAmong_1 : decode cX1_placesAmong 1 = .ok (.istore_n 1, 1) := by decide +kernel
theorem dX1_placesAmong_2 : decode cX1_placesAmong 2 = .ok (.iconst 0, 1) := by decide +kernel
theorem dX1_placesAmong_3 : decode cX1_placesAmong 3 = .ok (.istore_n 2, 1) := by decide +kernel
theorem dX1_placesAmong_4 : decode cX1_placesAmong 4 = .ok (.iload_n 2, 1) := by decide +kernel
theorem dX1_placesAmong_5 : decode cX1_placesAmong 5 = .ok (.aload_n 0, 1) := by decide +kernel
theorem dX1_placesAmong_6 : decode cX1_placesAmong 6 = .ok (.getfield 37, 3) := by decide +kernel
theorem dX1_placesAmong_9 : decode cX1_placesAmong 9 = .ok (.if_icmp .ge 25, 3) := by decide +kernel
theorem dX1_placesAmong_12 : decode cX1_placesAmong 12 = .ok (.aload_n 0, 1) := by decide +kernel
theorem dX1_placesAmong_13 : decode cX1_placesAmong 13 = .ok (.getfield 9, 3) := by decide +kernel
theorem dX1_placesAmong_16 : decode cX1_placesAmong 16 = .ok (.iload_n 2, 1) := by decide +kernel
theorem dX1_placesAmong_17 : decode cX1_placesAmong 17 = .ok (.iaload, 1) := by decide +kernel
theorem dX1_placesAmong_18 : decode cX1_placesAmong 18 = .ok (.iconst 2, 1) := by decide +kernel
theorem dX1_placesAmong_19 : decode cX1_placesAmong 19 = .ok (.invokestatic 111, 3) := by decide +kernel
theorem dX1_placesAmong_22 : decode cX1_placesAmong 22 = .ok (.ifCond .eq 6, 3) := by decide +kernel
theorem dX1_placesAmong_25 : decode cX1_placesAmong 25 = .ok (.iinc 1 1, 3) := by decide +kernel
theorem dX1_placesAmong_28 : decode cX1_placesAmong 28 = .ok (.iinc 2 1, 3) := by decide +kernel
theorem dX1_placesAmong_31 : decode cX1_placesAmong 31 = .ok (.goto (-27), 3) := by decide +kernel
theorem dX1_placesAmong_34 : decode cX1_placesAmong 34 = .ok (.iload_n 1, 1) := by decide +kernel
theorem dX1_placesAmong_35 : decode cX1_placesAmong 35 = .ok (.ireturn, 1) := by decide +kernel
def F_X1_placesAmong_L4 (n : Nat) (S : aSt) (a0 : Nat) (K34 : Int32 → Option Int32) : Nat → Int32 → Int32 → Option Int32
  | 0, _, _ => none
  | fu + 1, l4_1, l4_2 =>
    if (S.1 a0 7) ≤ l4_2 then (K34 l4_1) else
    rfd (S.2.2 a0 0) 7 fun k13 =>
    grd (inb l4_2 (SH k13).2) <|
    (F_X0_isA n S (S.1 k13 l4_2.toNatClampNeg) (2 : Int32)).bind fun r19 =>
    jn (fun (j28_1 : Int32) => (F_X1_placesAmong_L4 n S a0 K34 fu j28_1 (l4_2 + (1 : Int32)) : Option Int32)) fun K28 =>
    if r19 = 0 then (K28 l4_1) else
    K28 (l4_1 + (1 : Int32))
def F_X1_placesAmong (n : Nat) (S : aSt) (a0 : Nat) : Option Int32 :=
jn (fun (x34_1 : Int32) => (some x34_1 : Option Int32)) fun K34 =>
F_X1_placesAmong_L4 n S a0 K34 n (0 : Int32) (0 : Int32)
set_option maxHeartbeats 4000000 in
set_option maxRecDepth 100000 in
theorem C_X1_placesAmong (G : aG) (l : Launch) (n : Nat) (S : aSt) (a0 : Nat) (r : Int32) (ha0 : isT a0 0 = true) (hf : F_X1_placesAmong n S a0 = some r) : Ctr G l yX1_placesAmong mX1_placesAmong (rmM 2) 97 97 S [.ref a0] (some (.int r)) S := by
  refine Ctr.of (by decide) rfl rfl (Nat.le_of_ble_eq_true rfl) [(0, .ref a0)] rfl ?_
  unfold F_X1_placesAmong at hf
  refine Go.iconst (0 : Int32) 1 rfl dX1_placesAmong_0 ci_0 ?_
  refine Go.istore_n 2 [(1, .int (0 : Int32)), (0, .ref a0)] rfl dX1_placesAmong_1 (by decide) rfl ?_
  refine Go.iconst (0 : Int32) 3 rfl dX1_placesAmong_2 ci_0 ?_
  refine Go.istore_n 4 [(2, .int (0 : Int32)), (1, .int (0 : Int32)), (0, .ref a0)] rfl dX1_placesAmong_3 (by decide) rfl ?_
  obtain ⟨K34, eK34, hf⟩ := f_jn hf
  have J34 : ∀ (x34_1 : Int32), K34 x34_1 = some r → GoM G l 2 (TmR G (some (.int r)) 97 S 0 0) mX1_placesAmong 34 [(1, .int x34_1)] [] S := by
    intro x34_1 hf
    rw [eK34] at hf
    refine Go.iload_n 0 35 rfl dX1_placesAmong_34 rfl ?_
    exact Go.ir rfl dX1_placesAmong_35 hf
  clear eK34
  have L4 : ∀ (fu : Nat) (l4_1 : Int32) (l4_2 : Int32), F_X1_placesAmong_L4 n S a0 K34 fu l4_1 l4_2 = some r → GoM G l 2 (TmR G (some (.int r)) 97 S 0 0) mX1_placesAmong 4 [(0, .ref a0), (1, .int l4_1), (2, .int l4_2)] [] S := by
    intro fu
    induction fu with
    | zero => intro l4_1 l4_2 hf; rw [F_X1_placesAmong_L4] at hf; cases hf
    | succ fu ih =>
      intro l4_1 l4_2 hf
      rw [F_X1_placesAmong_L4] at hf
      refine Go.iload_n 2 5 rfl dX1_placesAmong_4 rfl ?_
      refine Go.aload_n 0 6 rfl dX1_placesAmong_5 rfl ?_
      refine Go.getI 9 rfl dX1_placesAmong_6 fl_X1_37 rfl (isT_lt ha0) (isT_sh ha0) ?_
      refine Go.icmp_ge 34 12 rfl dX1_placesAmong_9 rfl (fun hc => ?_) (fun hc => ?_)
      · replace hf := f_if hf hc
        exact Go.sub [1] [(1, .int l4_1)] rfl (J34 l4_1 hf)
      · replace hf := f_el hf hc
        refine Go.aload_n 0 13 rfl dX1_placesAmong_12 rfl ?_
        obtain ⟨k13, qk13, hk13, hf⟩ := f_rfd hf
        refine Go.getR 16 rfl dX1_placesAmong_13 fl_X1_9 rfl (isT_lt ha0) (isT_sh ha0) qk13 ?_
        refine Go.iload_n 2 17 rfl dX1_placesAmong_16 rfl ?_
        obtain ⟨g17, hf⟩ := f_grd hf
        refine Go.iald 18 rfl dX1_placesAmong_17 (isT_lt hk13) (isT_sh hk13) g17 ?_
        refine Go.iconst (2 : Int32) 19 rfl dX1_placesAmong_18 ci_2 ?_
        obtain ⟨r19, er19, hf⟩ := f_bnd hf
        refine Go.cS 22 [.int (S.1 k13 l4_2.toNatClampNeg), .int (2 : Int32)] [] (C_X0_isA G l n S (S.1 k13 l4_2.toNatClampNeg) (2 : Int32) r19  er19) rfl dX1_placesAmong_19 cx_X1_111 (by decide) (by decide) rfl (Nat.le_of_ble_eq_true rfl) ?_
        obtain ⟨K28, eK28, hf⟩ := f_jn hf
        have J28 : ∀ (j28_1 : Int32), K28 j28_1 = some r → GoM G l 2 (TmR G (some (.int r)) 97 S 0 0) mX1_placesAmong 28 [(0, .ref a0), (1, .int j28_1), (2, .int l4_2)] [] S := by
          intro j28_1 hf
          rw [eK28] at hf
          refine Go.inc 2 31 (1 : Int32) [(2, .int (l4_2 + (1 : Int32))), (0, .ref a0), (1, .int j28_1)] rfl dX1_placesAmong_28 rfl ci_1 (by decide) rfl ?_
          refine Go.goto 4 dX1_placesAmong_31 rfl ?_
          exact Go.sub [1, 2, 0] [(0, .ref a0), (1, .int j28_1), (2, .int (l4_2 + (1 : Int32)))] rfl (ih j28_1 (l4_2 + (1 : Int32)) hf)
        clear eK28
        refine Go.if_eq 28 25 rfl dX1_placesAmong_22 rfl (fun hc => ?_) (fun hc => ?_)
        · replace hf := f_if hf hc
          exact J28 l4_1 hf
        · replace hf := f_el hf hc
          refine Go.inc 1 28 (1 : Int32) [(1, .int (l4_1 + (1 : Int32))), (0, .ref a0), (2, .int l4_2)] rfl dX1_placesAmong_25 rfl ci_1 (by decide) rfl ?_
          exact Go.sub [1, 0, 2] [(0, .ref a0), (1, .int (l4_1 + (1 : Int32))), (2, .int l4_2)] rfl (J28 (l4_1 + (1 : Int32)) hf)
  exact Go.sub [2, 1, 0] [(0, .ref a0), (1, .int (0 : Int32)), (2, .int (0 : Int32))] rfl (L4 n (0 : Int32) (0 : Int32) hf)
theorem dX1_firstAlike_0 : decode cX1_firstAlike 0 = .ok (.iconst 0, 1) := by decide +kernel
theorem dX1_firstAlike_1 : decode cX1_firstAlike 1 = .ok (.istore 4, 2) := by decide +kernel
theorem dX1_firstAlike_3 : decode cX1_firstAlike 3 = .ok (.iload 4, 2) := by decide +kernel
theorem dX1_firstAlike_5 : decode cX1_firstAlike 5 = .ok (.aload_n 0, 1) := by decide +kernel
theorem dX1_firstAlike_6 : decode cX1_firstAlike 6 = .ok (.getfield 37, 3) := by decide +kernel
theorem dX1_firstAlike_9 : decode cX1_firstAlike 9 = .ok (.if_icmp .ge 66, 3) := by decide +kernel
theorem dX1_firstAlike_12 : decode cX1_firstAlike 12 = .ok (.aload_n 0, 1) := by decide +kernel
theorem dX1_firstAlike_13 : decode cX1_firstAlike 13 = .ok (.iload 4, 2) := by decide +kernel
theorem dX1_firstAlike_15 : decode cX1_firstAlike 15 = .ok (.invokevirtual 108, 3) := by decide +kernel
theorem dX1_firstAlike_18 : decode cX1_firstAlike 18 = .ok (.iload_n 1, 1) := by decide +kernel
theorem dX1_firstAlike_19 : decode cX1_firstAlike 19 = .ok (.bipush 10, 2) := by decide +kernel
theorem dX1_firstAlike_21 : decode cX1_firstAlike 21 = .ok (.irem, 1) := by decide +kernel
theorem dX1_firstAlike_22 : decode cX1_firstAlike 22 = .ok (.if_icmp .ne 25, 3) := by decide +kernel
theorem dX1_firstAlike_25 : decode cX1_firstAlike 25 = .ok (.iload_n 3, 1) := by decide +kernel
theorem dX1_firstAlike_26 : decode cX1_firstAlike 26 = .ok (.ifCond .eq 17, 3) := by decide +kernel
theorem dX1_firstAlike_29 : decode cX1_firstAlike 29 = .ok (.aload_n 0, 1) := by decide +kernel
theorem dX1_firstAlike_30 : decode cX1_firstAlike 30 = .ok (.getfield 9, 3) := by decide +kernel
theorem dX1_firstAlike_33 : decode cX1_firstAlike 33 = .ok (.iload 4, 2) := by decide +kernel
theorem dX1_firstAlike_35 : decode cX1_firstAlike 35 = .ok (.iaload, 1) := by decide +kernel
theorem dX1_firstAlike_36 : decode cX1_firstAlike 36 = .ok (.iload_n 1, 1) := by decide +kernel
theorem dX1_firstAlike_37 : decode cX1_firstAlike 37 = .ok (.bipush 10, 2) := by decide +kernel
theorem dX1_firstAlike_39 : decode cX1_firstAlike 39 = .ok (.idiv, 1) := by decide +kernel
theorem dX1_firstAlike_40 : decode cX1_firstAlike 40 = .ok (.if_icmp .ne 7, 3) := by decide +kernel
theorem dX1_firstAlike_43 : decode cX1_firstAlike 43 = .ok (.iconst 1, 1) := by decide +kernel
theorem dX1_firstAlike_44 : decode cX1_firstAlike 44 = .ok (.goto 4, 3) := by decide +kernel
theorem dX1_firstAlike_47 : decode cX1_firstAlike 47 = .ok (.iconst 0, 1) := by decide +kernel
theorem dX1_firstAlike_48 : decode cX1_firstAlike 48 = .ok (.istore 5, 2) := by decide +kernel
theorem dX1_firstAlike_50 : decode cX1_firstAlike 50 = .ok (.iload 5, 2) := by decide +kernel
theorem dX1_firstAlike_52 : decode cX1_firstAlike 52 = .ok (.ifCond .eq 17, 3) := by decide +kernel
theorem dX1_firstAlike_55 : decode cX1_firstAlike 55 = .ok (.iload_n 2, 1) := by decide +kernel
theorem dX1_firstAlike_56 : decode cX1_firstAlike 56 = .ok (.iconst 1, 1) := by decide +kernel
theorem dX1_firstAlike_57 : decode cX1_firstAlike 57 = .ok (.iload 4, 2) := by decide +kernel
theorem dX1_firstAlike_59 : decode cX1_firstAlike 59 = .ok (.ishl, 1) := by decide +kernel
theorem dX1_firstAlike_60 : decode cX1_firstAlike 60 = .ok (.iand, 1) := by decide +kernel
theorem dX1_firstAlike_61 : decode cX1_firstAlike 61 = .ok (.ifCond .ne 8, 3) := by decide +kernel
theorem dX1_firstAlike_64 : decode cX1_firstAlike 64 = .ok (.iconst 1, 1) := by decide +kernel
theorem dX1_firstAlike_65 : decode cX1_firstAlike 65 = .ok (.iload 4, 2) := by decide +kernel
theorem dX1_firstAlike_67 : decode cX1_firstAlike 67 = .ok (.ishl, 1) := by decide +kernel
theorem dX1_firstAlike_68 : decode cX1_firstAlike 68 = .ok (.ireturn, 1) := by decide +kernel
theorem dX1_firstAlike_69 : decode cX1_firstAlike 69 = .ok (.iinc 4 1, 3) := by decide +kernel
theorem dX1_firstAlike_72 : decode cX1_firstAlike 72 = .ok (.goto (-69), 3) := by decide +kernel
theorem dX1_firstAlike_75 : decode cX1_firstAlike 75 = .ok (.iconst 0, 1) := by decide +kernel
theorem dX1_firstAlike_76 : decode cX1_firstAlike 76 = .ok (.ireturn, 1) := by decide +kernel
def F_X1_firstAlike_L3 (n : Nat) (S : aSt) (a0 : Nat) (a1 : Int32) (a2 : Int32) (a3 : Int32) (K75 : Option Int32) : Nat → Int32 → Option Int32
  | 0, _ => none
  | fu + 1, l3_4 =>
    if (S.1 a0 7) ≤ l3_4 then (K75) else
    (F_X1_meaningOf n S a0 l3_4).bind fun r15 =>
    jn (fun (j48s0 : Int32) => (jn ((F_X1_firstAlike_L3 n S a0 a1 a2 a3 K75 fu (l3_4 + (1 : Int32)) : Option Int32)) fun K69 =>
    if j48s0 = 0 then (K69) else
    if (a2 &&& ((1 : Int32) <<< (l3_4 &&& 31))) = 0 then (some ((1 : Int32) <<< (l3_4 &&& 31))) else
    K69 : Option Int32)) fun K48 =>
    jn ((K48 (0 : Int32) : Option Int32)) fun K47 =>
    if r15 = (a1 - a1 / (10 : Int32) * (10 : Int32)) then (jn ((K48 (1 : Int32) : Option Int32)) fun K43 =>
    if a3 = 0 then (K43) else
    rfd (S.2.2 a0 0) 7 fun k30 =>
    grd (inb l3_4 (SH k30).2) <|
    if (S.1 k30 l3_4.toNatClampNeg) = (a1 / (10 : Int32)) then (K43) else
    K47) else
    K47
def F_X1_firstAlike (n : Nat) (S : aSt) (a0 : Nat) (a1 : Int32) (a2 : Int32) (a3 : Int32) : Option Int32 :=
jn ((some (0 : Int32) : Option Int32)) fun K75 =>
F_X1_firstAlike_L3 n S a0 a1 a2 a3 K75 n (0 : Int32)
set_option maxHeartbeats 4000000 in
set_option maxRecDepth 100000 in
theorem C_X1_firstAlike (G : aG) (l : Launch) (n : Nat) (S : aSt) (a0 : Nat) (a1 : Int32) (a2 : Int32) (a3 : Int32) (r : Int32) (ha0 : isT a0 0 = true) (hf : F_X1_firstAlike n S a0 a1 a2 a3 = some r) : Ctr G l yX1_firstAlike mX1_firstAlike (rmM 3) 97 97 S [.ref a0, .int a1, .int a2, .int a3] (some (.int r)) S := by
  refine Ctr.of (by decide) rfl rfl (Nat.le_of_ble_eq_true rfl) [(0, .ref a0), (1, .int a1), (2, .int a2), (3, .int a3)] rfl ?_
  unfold F_X1_firstAlike at hf
  refine Go.iconst (0 : Int32) 1 rfl dX1_firstAlike_0 ci_0 ?_
  refine Go.istore 3 [(4, .int (0 : Int32)), (0, .ref a0), (1, .int a1), (2, .int a2), (3, .int a3)] rfl dX1_firstAlike_1 (by decide) rfl ?_
  obtain ⟨K75, eK75, hf⟩ := f_jn hf
  have J75 : K75 = some r → GoM G l 3 (TmR G (some (.int r)) 97 S 0 0) mX1_firstAlike 75 [] [] S := by
    intro hf
    rw [eK75] at hf
    refine Go.iconst (0 : Int32) 76 rfl dX1_firstAlike_75 ci_0 ?_
    exact Go.ir rfl dX1_firstAlike_76 hf
  clear eK75
  have L3 : ∀ (fu : Nat) (l3_4 : Int32), F_X1_firstAlike_L3 n S a0 a1 a2 a3 K75 fu l3_4 = some r → GoM G l 3 (TmR G (some (.int r)) 97 S 0 0) mX1_firstAlike 3 [(0, .ref a0), (1, .int a1), (2, .int a2), (3, .int a3), (4, .int l3_4)] [] S := by
    intro fu
    induction fu with
    | zero => intro l3_4 hf; rw [F_X1_firstAlike_L3] at hf; cases hf
    | succ fu ih =>
      intro l3_4 hf
      rw [F_X1_firstAlike_L3] at hf
      refine Go.iload 4 5 rfl dX1_firstAlike_3 rfl ?_
      refine Go.aload_n 0 6 rfl dX1_firstAlike_5 rfl ?_
      refine Go.getI 9 rfl dX1_firstAlike_6 fl_X1_37 rfl (isT_lt ha0) (isT_sh ha0) ?_
      refine Go.icmp_ge 75 12 rfl dX1_firstAlike_9 rfl (fun hc => ?_) (fun hc => ?_)
      · replace hf := f_if hf hc
        exact Go.sub [] [] rfl (J75 hf)
      · replace hf := f_el hf hc
        refine Go.aload_n 0 13 rfl dX1_firstAlike_12 rfl ?_
        refine Go.iload 4 15 rfl dX1_firstAlike_13 rfl ?_
        obtain ⟨r15, er15, hf⟩ := f_bnd hf
        refine Go.cV 18 [.int l3_4] [] (C_X1_meaningOf G l n S a0 l3_4 r15 ha0 er15) rfl dX1_firstAlike_15 cv_X1_108 ha0 (by decide) (by decide) rfl (Nat.le_of_ble_eq_true rfl) ?_
        refine Go.iload_n 1 19 rfl dX1_firstAlike_18 rfl ?_
        refine Go.bipush (10 : Int32) 21 rfl dX1_firstAlike_19 cb_10 ?_
        refine Go.irem 22 rfl dX1_firstAlike_21 (by decide) ?_
        obtain ⟨K48, eK48, hf⟩ := f_jn hf
        have J48 : ∀ (j48s0 : Int32), K48 j48s0 = some r → GoM G l 3 (TmR G (some (.int r)) 97 S 0 0) mX1_firstAlike 48 [(0, .ref a0), (1, .int a1), (2, .int a2), (3, .int a3), (4, .int l3_4)] [.int j48s0] S := by
          intro j48s0 hf
          rw [eK48] at hf
          refine Go.istore 50 [(5, .int j48s0), (0, .ref a0), (1, .int a1), (2, .int a2), (3, .int a3), (4, .int l3_4)] rfl dX1_firstAlike_48 (by decide) rfl ?_
          refine Go.iload 0 52 rfl dX1_firstAlike_50 rfl ?_
          obtain ⟨K69, eK69, hf⟩ := f_jn hf
          have J69 : K69 = some r → GoM G l 3 (TmR G (some (.int r)) 97 S 0 0) mX1_firstAlike 69 [(0, .ref a0), (1, .int a1), (2, .int a2), (3, .int a3), (4, .int l3_4)] [] S := by
            intro hf
            rw [eK69] at hf
            refine Go.inc 4 72 (1 : Int32) [(4, .int (l3_4 + (1 : Int32))), (0, .ref a0), (1, .int a1), (2, .int a2), (3, .int a3)] rfl dX1_firstAlike_69 rfl ci_1 (by decide) rfl ?_
            refine Go.goto 3 dX1_firstAlike_72 rfl ?_
            exact Go.sub [1, 2, 3, 4, 0] [(0, .ref a0), (1, .int a1), (2, .int a2), (3, .int a3), (4, .int (l3_4 + (1 : Int32)))] rfl (ih (l3_4 + (1 : Int32)) hf)
          clear eK69
          refine Go.if_eq 69 55 rfl dX1_firstAlike_52 rfl (fun hc => ?_) (fun hc => ?_)
          · replace hf := f_if hf hc
            exact Go.sub [1, 2, 3, 4, 5] [(0, .ref a0), (1, .int a1), (2, .int a2), (3, .int a3), (4, .int l3_4)] rfl (J69 hf)
          · replace hf := f_el hf hc
            refine Go.iload_n 3 56 rfl dX1_firstAlike_55 rfl ?_
            refine Go.iconst (1 : Int32) 57 rfl dX1_firstAlike_56 ci_1 ?_
            refine Go.iload 5 59 rfl dX1_firstAlike_57 rfl ?_
            refine Go.ishl 60 rfl dX1_firstAlike_59 ?_
            refine Go.iand 61 rfl dX1_firstAlike_60 ?_
            refine Go.if_ne 69 64 rfl dX1_firstAlike_61 rfl (fun hc => ?_) (fun hc => ?_)
            · replace hf := f_el hf hc
              exact Go.sub [1, 2, 3, 4, 5] [(0, .ref a0), (1, .int a1), (2, .int a2), (3, .int a3), (4, .int l3_4)] rfl (J69 hf)
            · replace hf := f_if hf hc
              refine Go.iconst (1 : Int32) 65 rfl dX1_firstAlike_64 ci_1 ?_
              refine Go.iload 5 67 rfl dX1_firstAlike_65 rfl ?_
              refine Go.ishl 68 rfl dX1_firstAlike_67 ?_
              exact Go.ir rfl dX1_firstAlike_68 hf
        clear eK48
        obtain ⟨K47, eK47, hf⟩ := f_jn hf
        have J47 : K47 = some r → GoM G l 3 (TmR G (some (.int r)) 97 S 0 0) mX1_firstAlike 47 [(0, .ref a0), (1, .int a1), (2, .int a2), (3, .int a3), (4, .int l3_4)] [] S := by
          intro hf
          rw [eK47] at hf
          refine Go.iconst (0 : Int32) 48 rfl dX1_firstAlike_47 ci_0 ?_
          exact J48 (0 : Int32) hf
        clear eK47
        refine Go.icmp_ne 47 25 rfl dX1_firstAlike_22 rfl (fun hc => ?_) (fun hc => ?_)
        · replace hf := f_el hf hc
          exact J47 hf
        · replace hf := f_if hf hc
          refine Go.iload_n 3 26 rfl dX1_firstAlike_25 rfl ?_
          obtain ⟨K43, eK43, hf⟩ := f_jn hf
          have J43 : K43 = some r → GoM G l 3 (TmR G (some (.int r)) 97 S 0 0) mX1_firstAlike 43 [(0, .ref a0), (1, .int a1), (2, .int a2), (3, .int a3), (4, .int l3_4)] [] S := by
            intro hf
            rw [eK43] at hf
            refine Go.iconst (1 : Int32) 44 rfl dX1_firstAlike_43 ci_1 ?_
            refine Go.goto 48 dX1_firstAlike_44 rfl ?_
            exact J48 (1 : Int32) hf
          clear eK43
          refine Go.if_eq 43 29 rfl dX1_firstAlike_26 rfl (fun hc => ?_) (fun hc => ?_)
          · replace hf := f_if hf hc
            exact J43 hf
          · replace hf := f_el hf hc
            refine Go.aload_n 0 30 rfl dX1_firstAlike_29 rfl ?_
            obtain ⟨k30, qk30, hk30, hf⟩ := f_rfd hf
            refine Go.getR 33 rfl dX1_firstAlike_30 fl_X1_9 rfl (isT_lt ha0) (isT_sh ha0) qk30 ?_
            refine Go.iload 4 35 rfl dX1_firstAlike_33 rfl ?_
            obtain ⟨g35, hf⟩ := f_grd hf
            refine Go.iald 36 rfl dX1_firstAlike_35 (isT_lt hk30) (isT_sh hk30) g35 ?_
            refine Go.iload_n 1 37 rfl dX1_firstAlike_36 rfl ?_
            refine Go.bipush (10 : Int32) 39 rfl dX1_firstAlike_37 cb_10 ?_
            refine Go.idiv 40 rfl dX1_firstAlike_39 (by decide) ?_
            refine Go.icmp_ne 47 43 rfl dX1_firstAlike_40 rfl (fun hc => ?_) (fun hc => ?_)
            · replace hf := f_el hf hc
              exact J47 hf
            · replace hf := f_if hf hc
              exact J43 hf
  exact Go.sub [1, 2, 3, 4, 0] [(0, .ref a0), (1, .int a1), (2, .int a2), (3, .int a3), (4, .int (0 : Int32))] rfl (L3 n (0 : Int32) hf)
theorem dX1_pairsWith_0 : decode cX1_pairsWith 0 = .ok (.iconst 0, 1) := by decide +kernel
theorem dX1_pairsWith_1 : decode cX1_pairsWith 1 = .ok (.istore_n 3, 1) := by decide +kernel
theorem dX1_pairsWith_2 : decode cX1_pairsWith 2 = .ok (.iconst 0, 1) := by decide +kernel
theorem dX1_pairsWith_3 : decode cX1_pairsWith 3 = .ok (.istore 4, 2) := by decide +kernel
theorem dX1_pairsWith_5 : decode cX1_pairsWith 5 = .ok (.iload 4, 2) := by decide +kernel
theorem dX1_pairsWith_7 : decode cX1_pairsWith 7 = .ok (.aload_n 1, 1) := by decide +kernel
theorem dX1_pairsWith_8 : decode cX1_pairsWith 8 = .ok (.getfield 47, 3) := by decide +kernel
theorem dX1_pairsWith_11 : decode cX1_pairsWith 11 = .ok (.if_icmp .ge 25, 3) := by decide +kernel
theorem dX1_pairsWith_14 : decode cX1_pairsWith 14 = .ok (.iload_n 3, 1) := by decide +kernel
theorem dX1_pairsWith_15 : decode cX1_pairsWith 15 = .ok (.aload_n 0, 1) := by decide +kernel
theorem dX1_pairsWith_16 : decode cX1_pairsWith 16 = .ok (.aload_n 1, 1) := by decide +kernel
theorem dX1_pairsWith_17 : decode cX1_pairsWith 17 = .ok (.getfield 60, 3) := by decide +kernel
theorem dX1_pairsWith_20 : decode cX1_pairsWith 20 = .ok (.iload 4, 2) := by decide +kernel
theorem dX1_pairsWith_22 : decode cX1_pairsWith 22 = .ok (.iaload, 1) := by decide +kernel
theorem dX1_pairsWith_23 : decode cX1_pairsWith 23 = .ok (.iload_n 3, 1) := by decide +kernel
theorem dX1_pairsWith_24 : decode cX1_pairsWith 24 = .ok (.iload_n 2, 1) := by decide +kernel
theorem dX1_pairsWith_25 : decode cX1_pairsWith 25 = .ok (.invokevirtual 136, 3) := by decide +kernel
theorem dX1_pairsWith_28 : decode cX1_pairsWith 28 = .ok (.ior, 1) := by decide +kernel
theorem dX1_pairsWith_29 : decode cX1_pairsWith 29 = .ok (.istore_n 3, 1) := by decide +kernel
theorem dX1_pairsWith_30 : decode cX1_pairsWith 30 = .ok (.iinc 4 1, 3) := by decide +kernel
theorem dX1_pairsWith_33 : decode cX1_pairsWith 33 = .ok (.goto (-28), 3) := by decide +kernel
theorem dX1_pairsWith_36 : decode cX1_pairsWith 36 = .ok (.iload_n 3, 1) := by decide +kernel
theorem dX1_pairsWith_37 : decode cX1_pairsWith 37 = .ok (.invokestatic 140, 3) := by decide +kernel
theorem dX1_pairsWith_40 : decode cX1_pairsWith 40 = .ok (.ireturn, 1) := by decide +kernel
def F_X1_pairsWith_L5 (n : Nat) (S : aSt) (a0 : Nat) (a1 : Nat) (a2 : Int32) (K36 : Int32 → Option Int32) : Nat → Int32 → Int32 → Option Int32
  | 0, _, _ => none
  | fu + 1, l5_3, l5_4 =>
    if (S.1 a1 1) ≤ l5_4 then (K36 l5_3) else
    rfd (S.2.2 a1 0) 7 fun k17 =>
    grd (inb l5_4 (SH k17).2) <|
    (F_X1_firstAlike n S a0 (S.1 k17 l5_4.toNatClampNeg) l5_3 a2).bind fun r25 =>
    nm (l5_3 ||| r25) fun v29 =>
    F_X1_pairsWith_L5 n S a0 a1 a2 K36 fu v29 (l5_4 + (1 : Int32))
def F_X1_pairsWith (n : Nat) (S : aSt) (a0 : Nat) (a1 : Nat) (a2 : Int32) : Option Int32 :=
jn (fun (x36_3 : Int32) => ((F_J6_bitCount_0f7a4 n S x36_3).bind fun r37 =>
some r37 : Option Int32)) fun K36 =>
F_X1_pairsWith_L5 n S a0 a1 a2 K36 n (0 : Int32) (0 : Int32)
set_option maxHeartbeats 4000000 in
set_option maxRecDepth 100000 in
theorem C_X1_pairsWith (G : aG) (l : Launch) (n : Nat) (S : aSt) (a0 : Nat) (a1 : Nat) (a2 : Int32) (r : Int32) (ha0 : isT a0 0 = true) (ha1 : isT a1 3 = true) (hf : F_X1_pairsWith n S a0 a1 a2 = some r) : Ctr G l yX1_pairsWith mX1_pairsWith (rmM 4) 97 97 S [.ref a0, .ref a1, .int a2] (some (.int r)) S := by
  refine Ctr.of (by decide) rfl rfl (Nat.le_of_ble_eq_true rfl) [(0, .ref a0), (1, .ref a1), (2, .int a2)] rfl ?_
  unfold F_X1_pairsWith at hf
  refine Go.iconst (0 : Int32) 1 rfl dX1_pairsWith_0 ci_0 ?_
  refine Go.istore_n 2 [(3, .int (0 : Int32)), (0, .ref a0), (1, .ref a1), (2, .int a2)] rfl dX1_pairsWith_1 (by decide) rfl ?_
  refine Go.iconst (0 : Int32) 3 rfl dX1_pairsWith_2 ci_0 ?_
  refine Go.istore 5 [(4, .int (0 : Int32)), (3, .int (0 : Int32)), (0, .ref a0), (1, .ref a1), (2, .int a2)] rfl dX1_pairsWith_3 (by decide) rfl ?_
  obtain ⟨K36, eK36, hf⟩ := f_jn hf
  have J36 : ∀ (x36_3 : Int32), K36 x36_3 = some r → GoM G l 4 (TmR G (some (.int r)) 97 S 0 0) mX1_pairsWith 36 [(3, .int x36_3)] [] S := by
    intro x36_3 hf
    rw [eK36] at hf
    refine Go.iload_n 0 37 rfl dX1_pairsWith_36 rfl ?_
    obtain ⟨r37, er37, hf⟩ := f_bnd hf
    refine Go.cS 40 [.int x36_3] [] (C_J6_bitCount_0f7a4 G l n S x36_3 r37  er37) rfl dX1_pairsWith_37 cx_X1_140 (by decide) (by decide) rfl (Nat.le_of_ble_eq_true rfl) ?_
    exact Go.ir rfl dX1_pairsWith_40 hf
  clear eK36
  have L5 : ∀ (fu : Nat) (l5_3 : Int32) (l5_4 : Int32), F_X1_pairsWith_L5 n S a0 a1 a2 K36 fu l5_3 l5_4 = some r → GoM G l 4 (TmR G (some (.int r)) 97 S 0 0) mX1_pairsWith 5 [(0, .ref a0), (1, .ref a1), (2, .int a2), (3, .int l5_3), (4, .int l5_4)] [] S := by
    intro fu
    induction fu with
    | zero => intro l5_3 l5_4 hf; rw [F_X1_pairsWith_L5] at hf; cases hf
    | succ fu ih =>
      intro l5_3 l5_4 hf
      rw [F_X1_pairsWith_L5] at hf
      refine Go.iload 4 7 rfl dX1_pairsWith_5 rfl ?_
      refine Go.aload_n 1 8 rfl dX1_pairsWith_7 rfl ?_
      refine Go.getI 11 rfl dX1_pairsWith_8 fl_X1_47 rfl (isT_lt ha1) (isT_sh ha1) ?_
      refine Go.icmp_ge 36 14 rfl dX1_pairsWith_11 rfl (fun hc => ?_) (fun hc => ?_)
      · replace hf := f_if hf hc
        exact Go.sub [3] [(3, .int l5_3)] rfl (J36 l5_3 hf)
      · replace hf := f_el hf hc
        refine Go.iload_n 3 15 rfl dX1_pairsWith_14 rfl ?_
        refine Go.aload_n 0 16 rfl dX1_pairsWith_15 rfl ?_
        refine Go.aload_n 1 17 rfl dX1_pairsWith_16 rfl ?_
        obtain ⟨k17, qk17, hk17, hf⟩ := f_rfd hf
        refine Go.getR 20 rfl dX1_pairsWith_17 fl_X1_60 rfl (isT_lt ha1) (isT_sh ha1) qk17 ?_
        refine Go.iload 4 22 rfl dX1_pairsWith_20 rfl ?_
        obtain ⟨g22, hf⟩ := f_grd hf
        refine Go.iald 23 rfl dX1_pairsWith_22 (isT_lt hk17) (isT_sh hk17) g22 ?_
        refine Go.iload_n 3 24 rfl dX1_pairsWith_23 rfl ?_
        refine Go.iload_n 2 25 rfl dX1_pairsWith_24 rfl ?_
        obtain ⟨r25, er25, hf⟩ := f_bnd hf
        refine Go.cV 28 [.int (S.1 k17 l5_4.toNatClampNeg), .int l5_3, .int a2] [.int l5_3] (C_X1_firstAlike G l n S a0 (S.1 k17 l5_4.toNatClampNeg) l5_3 a2 r25 ha0 er25) rfl dX1_pairsWith_25 cv_X1_136 ha0 (by decide) (by decide) rfl (Nat.le_of_ble_eq_true rfl) ?_
        refine Go.ior 29 rfl dX1_pairsWith_28 ?_
        obtain ⟨v29, ev29, hf⟩ := f_nm hf
        refine Go.topi v29 ev29 ?_
        refine Go.istore_n 30 [(3, .int v29), (0, .ref a0), (1, .ref a1), (2, .int a2), (4, .int l5_4)] rfl dX1_pairsWith_29 (by decide) rfl ?_
        refine Go.inc 4 33 (1 : Int32) [(4, .int (l5_4 + (1 : Int32))), (3, .int v29), (0, .ref a0), (1, .ref a1), (2, .int a2)] rfl dX1_pairsWith_30 rfl ci_1 (by decide) rfl ?_
        refine Go.goto 5 dX1_pairsWith_33 rfl ?_
        exact Go.sub [2, 3, 4, 1, 0] [(0, .ref a0), (1, .ref a1), (2, .int a2), (3, .int v29), (4, .int (l5_4 + (1 : Int32)))] rfl (ih v29 (l5_4 + (1 : Int32)) hf)
  exact Go.sub [2, 3, 4, 1, 0] [(0, .ref a0), (1, .ref a1), (2, .int a2), (3, .int (0 : Int32)), (4, .int (0 : Int32))] rfl (L5 n (0 : Int32) (0 : Int32) hf)
theorem dX1_cardsOfOn_0 : decode cX1_cardsOfOn 0 = .ok (.iconst 0, 1) := by decide +kernel
theorem dX1_cardsOfOn_1 : decode cX1_cardsOfOn 1 = .ok (.istore_n 3, 1) := by decide +kernel
theorem dX1_cardsOfOn_2 : decode cX1_cardsOfOn 2 = .ok (.iconst 0, 1) := by decide +kernel
theorem dX1_cardsOfOn_3 : decode cX1_cardsOfOn 3 = .ok (.istore 4, 2) := by decide +kernel
theorem dX1_cardsOfOn_5 : decode cX1_cardsOfOn 5 = .ok (.iload 4, 2) := by decide +kernel
theorem dX1_cardsOfOn_7 : decode cX1_cardsOfOn 7 = .ok (.aload_n 0, 1) := by decide +kernel
theorem dX1_cardsOfOn_8 : decode cX1_cardsOfOn 8 = .ok (.getfield 37, 3) := by decide +kernel
theorem dX1_cardsOfOn_11 : decode cX1_cardsOfOn 11 = .ok (.if_icmp .ge 37, 3) := by decide +kernel
theorem dX1_cardsOfOn_14 : decode cX1_cardsOfOn 14 = .ok (.aload_n 0, 1) := by decide +kernel
theorem dX1_cardsOfOn_15 : decode cX1_cardsOfOn 15 = .ok (.getfield 9, 3) := by decide +kernel
theorem dX1_cardsOfOn_18 : decode cX1_cardsOfOn 18 = .ok (.iload 4, 2) := by decide +kernel
theorem dX1_cardsOfOn_20 : decode cX1_cardsOfOn 20 = .ok (.iaload, 1) := by decide +kernel
theorem dX1_cardsOfOn_21 : decode cX1_cardsOfOn 21 = .ok (.iload_n 1, 1) := by decide +kernel
theorem dX1_cardsOfOn_22 : decode cX1_cardsOfOn 22 = .ok (.if_icmp .ne 20, 3) := by decide +kernel
theorem dX1_cardsOfOn_25 : decode cX1_cardsOfOn 25 = .ok (.aload_n 0, 1) := by decide +kernel
theorem dX1_cardsOfOn_26 : decode cX1_cardsOfOn 26 = .ok (.getfield 33, 3) := by decide +kernel
theorem dX1_cardsOfOn_29 : decode cX1_cardsOfOn 29 = .ok (.getfield 79, 3) := by decide +kernel
theorem dX1_cardsOfOn_32 : decode cX1_cardsOfOn 32 = .ok (.iload 4, 2) := by decide +kernel
theorem dX1_cardsOfOn_34 : decode cX1_cardsOfOn 34 = .ok (.iaload, 1) := by decide +kernel
theorem dX1_cardsOfOn_35 : decode cX1_cardsOfOn 35 = .ok (.iload_n 2, 1) := by decide +kernel
theorem dX1_cardsOfOn_36 : decode cX1_cardsOfOn 36 = .ok (.if_icmp .ne 6, 3) := by decide +kernel
theorem dX1_cardsOfOn_39 : decode cX1_cardsOfOn 39 = .ok (.iinc 3 1, 3) := by decide +kernel
theorem dX1_cardsOfOn_42 : decode cX1_cardsOfOn 42 = .ok (.iinc 4 1, 3) := by decide +kernel
theorem dX1_cardsOfOn_45 : decode cX1_cardsOfOn 45 = .ok (.goto (-40), 3) := by decide +kernel
theorem dX1_cardsOfOn_48 : decode cX1_cardsOfOn 48 = .ok (.iload_n 3, 1) := by decide +kernel
theorem dX1_cardsOfOn_49 : decode cX1_cardsOfOn 49 = .ok (.ireturn, 1) := by decide +kernel
def F_X1_cardsOfOn_L5 (S : aSt) (a0 : Nat) (a1 : Int32) (a2 : Int32) (K48 : Int32 → Option Int32) : Nat → Int32 → Int32 → Option Int32
  | 0, _, _ => none
  | fu + 1, l5_3, l5_4 =>
    if (S.1 a0 7) ≤ l5_4 then (K48 l5_3) else
    rfd (S.2.2 a0 0) 7 fun k15 =>
    grd (inb l5_4 (SH k15).2) <|
    jn (fun (j42_3 : Int32) => (F_X1_cardsOfOn_L5 S a0 a1 a2 K48 fu j42_3 (l5_4 + (1 : Int32)) : Option Int32)) fun K42 =>
    if (S.1 k15 l5_4.toNatClampNeg) = a1 then (rfd (S.2.2 a0 6) 4 fun k26 =>
    rfd (S.2.2 k26 0) 7 fun k29 =>
    grd (inb l5_4 (SH k29).2) <|
    if (S.1 k29 l5_4.toNatClampNeg) = a2 then (K42 (l5_3 + (1 : Int32))) else
    K42 l5_3) else
    K42 l5_3
def F_X1_cardsOfOn (n : Nat) (S : aSt) (a0 : Nat) (a1 : Int32) (a2 : Int32) : Option Int32 :=
jn (fun (x48_3 : Int32) => (some x48_3 : Option Int32)) fun K48 =>
F_X1_cardsOfOn_L5 S a0 a1 a2 K48 n (0 : Int32) (0 : Int32)
set_option maxHeartbeats 4000000 in
set_option maxRecDepth 100000 in
theorem C_X1_cardsOfOn (G : aG) (l : Launch) (n : Nat) (S : aSt) (a0 : Nat) (a1 : Int32) (a2 : Int32) (r : Int32) (ha0 : isT a0 0 = true) (hf : F_X1_cardsOfOn n S a0 a1 a2 = some r) : Ctr G l yX1_cardsOfOn mX1_cardsOfOn (rmM 1) 97 97 S [.ref a0, .int a1, .int a2] (some (.int r)) S := by
  refine Ctr.of (by decide) rfl rfl (Nat.le_of_ble_eq_true rfl) [(0, .ref a0), (1, .int a1), (2, .int a2)] rfl ?_
  unfold F_X1_cardsOfOn at hf
  refine Go.iconst (0 : Int32) 1 rfl dX1_cardsOfOn_0 ci_0 ?_
  refine Go.istore_n 2 [(3, .int (0 : Int32)), (0, .ref a0), (1, .int a1), (2, .int a2)] rfl dX1_cardsOfOn_1 (by decide) rfl ?_
  refine Go.iconst (0 : Int32) 3 rfl dX1_cardsOfOn_2 ci_0 ?_
  refine Go.istore 5 [(4, .int (0 : Int32)), (3, .int (0 : Int32)), (0, .ref a0), (1, .int a1), (2, .int a2)] rfl dX1_cardsOfOn_3 (by decide) rfl ?_
  obtain ⟨K48, eK48, hf⟩ := f_jn hf
  have J48 : ∀ (x48_3 : Int32), K48 x48_3 = some r → GoM G l 1 (TmR G (some (.int r)) 97 S 0 0) mX1_cardsOfOn 48 [(3, .int x48_3)] [] S := by
    intro x48_3 hf
    rw [eK48] at hf
    refine Go.iload_n 0 49 rfl dX1_cardsOfOn_48 rfl ?_
    exact Go.ir rfl dX1_cardsOfOn_49 hf
  clear eK48
  have L5 : ∀ (fu : Nat) (l5_3 : Int32) (l5_4 : Int32), F_X1_cardsOfOn_L5 S a0 a1 a2 K48 fu l5_3 l5_4 = some r → GoM G l 1 (TmR G (some (.int r)) 97 S 0 0) mX1_cardsOfOn 5 [(0, .ref a0), (1, .int a1), (2, .int a2), (3, .int l5_3), (4, .int l5_4)] [] S := by
    intro fu
    induction fu with
    | zero => intro l5_3 l5_4 hf; rw [F_X1_cardsOfOn_L5] at hf; cases hf
    | succ fu ih =>
      intro l5_3 l5_4 hf
      rw [F_X1_cardsOfOn_L5] at hf
      refine Go.iload 4 7 rfl dX1_cardsOfOn_5 rfl ?_
      refine Go.aload_n 0 8 rfl dX1_cardsOfOn_7 rfl ?_
      refine Go.getI 11 rfl dX1_cardsOfOn_8 fl_X1_37 rfl (isT_lt ha0) (isT_sh ha0) ?_
      refine Go.icmp_ge 48 14 rfl dX1_cardsOfOn_11 rfl (fun hc => ?_) (fun hc => ?_)
      · replace hf := f_if hf hc
        exact Go.sub [3] [(3, .int l5_3)] rfl (J48 l5_3 hf)
      · replace hf := f_el hf hc
        refine Go.aload_n 0 15 rfl dX1_cardsOfOn_14 rfl ?_
        obtain ⟨k15, qk15, hk15, hf⟩ := f_rfd hf
        refine Go.getR 18 rfl dX1_cardsOfOn_15 fl_X1_9 rfl (isT_lt ha0) (isT_sh ha0) qk15 ?_
        refine Go.iload 4 20 rfl dX1_cardsOfOn_18 rfl ?_
        obtain ⟨g20, hf⟩ := f_grd hf
        refine Go.iald 21 rfl dX1_cardsOfOn_20 (isT_lt hk15) (isT_sh hk15) g20 ?_
        refine Go.iload_n 1 22 rfl dX1_cardsOfOn_21 rfl ?_
        obtain ⟨K42, eK42, hf⟩ := f_jn hf
        have J42 : ∀ (j42_3 : Int32), K42 j42_3 = some r → GoM G l 1 (TmR G (some (.int r)) 97 S 0 0) mX1_cardsOfOn 42 [(0, .ref a0), (1, .int a1), (2, .int a2), (3, .int j42_3), (4, .int l5_4)] [] S := by
          intro j42_3 hf
          rw [eK42] at hf
          refine Go.inc 4 45 (1 : Int32) [(4, .int (l5_4 + (1 : Int32))), (0, .ref a0), (1, .int a1), (2, .int a2), (3, .int j42_3)] rfl dX1_cardsOfOn_42 rfl ci_1 (by decide) rfl ?_
          refine Go.goto 5 dX1_cardsOfOn_45 rfl ?_
          exact Go.sub [1, 2, 3, 4, 0] [(0, .ref a0), (1, .int a1), (2, .int a2), (3, .int j42_3), (4, .int (l5_4 + (1 : Int32)))] rfl (ih j42_3 (l5_4 + (1 : Int32)) hf)
        clear eK42
        refine Go.icmp_ne 42 25 rfl dX1_cardsOfOn_22 rfl (fun hc => ?_) (fun hc => ?_)
        · replace hf := f_el hf hc
          exact J42 l5_3 hf
        · replace hf := f_if hf hc
          refine Go.aload_n 0 26 rfl dX1_cardsOfOn_25 rfl ?_
          obtain ⟨k26, qk26, hk26, hf⟩ := f_rfd hf
          refine Go.getR 29 rfl dX1_cardsOfOn_26 fl_X1_33 rfl (isT_lt ha0) (isT_sh ha0) qk26 ?_
          obtain ⟨k29, qk29, hk29, hf⟩ := f_rfd hf
          refine Go.getR 32 rfl dX1_cardsOfOn_29 fl_X1_79 rfl (isT_lt hk26) (isT_sh hk26) qk29 ?_
          refine Go.iload 4 34 rfl dX1_cardsOfOn_32 rfl ?_
          obtain ⟨g34, hf⟩ := f_grd hf
          refine Go.iald 35 rfl dX1_cardsOfOn_34 (isT_lt hk29) (isT_sh hk29) g34 ?_
          refine Go.iload_n 2 36 rfl dX1_cardsOfOn_35 rfl ?_
          refine Go.icmp_ne 42 39 rfl dX1_cardsOfOn_36 rfl (fun hc => ?_) (fun hc => ?_)
          · replace hf := f_el hf hc
            exact J42 l5_3 hf
          · replace hf := f_if hf hc
            refine Go.inc 3 42 (1 : Int32) [(3, .int (l5_3 + (1 : Int32))), (0, .ref a0), (1, .int a1), (2, .int a2), (4, .int l5_4)] rfl dX1_cardsOfOn_39 rfl ci_1 (by decide) rfl ?_
            exact Go.sub [1, 2, 3, 0, 4] [(0, .ref a0), (1, .int a1), (2, .int a2), (3, .int (l5_3 + (1 : Int32))), (4, .int l5_4)] rfl (J42 (l5_3 + (1 : Int32)) hf)
  exact Go.sub [2, 3, 4, 1, 0] [(0, .ref a0), (1, .int a1), (2, .int a2), (3, .int (0 : Int32)), (4, .int (0 : Int32))] rfl (L5 n (0 : Int32) (0 : Int32) hf)
theorem dX1_homeOf_0 : decode cX1_homeOf 0 = .ok (.iconst 0, 1) := by decide +kernel
theorem dX1_homeOf_1 : decode cX1_homeOf 1 = .ok (.istore_n 2, 1) := by decide +kernel
theorem dX1_homeOf_2 : decode cX1_homeOf 2 = .ok (.iconst 0, 1) := by decide +kernel
theorem dX1_homeOf_3 : decode cX1_homeOf 3 = .ok (.istore_n 3, 1) := by decide +kernel
theorem dX1_homeOf_4 : decode cX1_homeOf 4 = .ok (.iconst 0, 1) := by decide +kernel
theorem dX1_homeOf_5 : decode cX1_homeOf 5 = .ok (.istore 4, 2) := by decide +kernel
theorem dX1_homeOf_7 : decode cX1_homeOf 7 = .ok (.iload 4, 2) := by decide +kernel
theorem dX1_homeOf_9 : decode cX1_homeOf 9 = .ok (.iconst 4, 1) := by decide +kernel
theorem dX1_homeOf_10 : decode cX1_homeOf 10 = .ok (.if_icmp .ge 30, 3) := by decide +kernel
theorem dX1_homeOf_13 : decode cX1_homeOf 13 = .ok (.aload_n 0, 1) := by decide +kernel
theorem dX1_homeOf_14 : decode cX1_homeOf 14 = .ok (.iload_n 1, 1) := by decide +kernel
theorem dX1_homeOf_15 : decode cX1_homeOf 15 = .ok (.iload 4, 2) := by decide +kernel
theorem dX1_homeOf_17 : decode cX1_homeOf 17 = .ok (.invokevirtual 145, 3) := by decide +kernel
theorem dX1_homeOf_20 : decode cX1_homeOf 20 = .ok (.istore 5, 2) := by decide +kernel
theorem dX1_homeOf_22 : decode cX1_homeOf 22 = .ok (.iload 5, 2) := by decide +kernel
theorem dX1_homeOf_24 : decode cX1_homeOf 24 = .ok (.iload_n 3, 1) := by decide +kernel
theorem dX1_homeOf_25 : decode cX1_homeOf 25 = .ok (.if_icmp .le 9, 3) := by decide +kernel
theorem dX1_homeOf_28 : decode cX1_homeOf 28 = .ok (.iload 5, 2) := by decide +kernel
theorem dX1_homeOf_30 : decode cX1_homeOf 30 = .ok (.istore_n 3, 1) := by decide +kernel
theorem dX1_homeOf_31 : decode cX1_homeOf 31 = .ok (.iload 4, 2) := by decide +kernel
theorem dX1_homeOf_33 : decode cX1_homeOf 33 = .ok (.istore_n 2, 1) := by decide +kernel
theorem dX1_homeOf_34 : decode cX1_homeOf 34 = .ok (.iinc 4 1, 3) := by decide +kernel
theorem dX1_homeOf_37 : decode cX1_homeOf 37 = .ok (.goto (-30), 3) := by decide +kernel
theorem dX1_homeOf_40 : decode cX1_homeOf 40 = .ok (.iload_n 2, 1) := by decide +kernel
theorem dX1_homeOf_41 : decode cX1_homeOf 41 = .ok (.ireturn, 1) := by decide +kernel
def F_X1_homeOf_L7 (n : Nat) (S : aSt) (a0 : Nat) (a1 : Int32) (K40 : Int32 → Option Int32) : Nat → Int32 → Int32 → Int32 → Option Int32
  | 0, _, _, _ => none
  | fu + 1, l7_2, l7_3, l7_4 =>
    if (4 : Int32) ≤ l7_4 then (K40 l7_2) else
    (F_X1_cardsOfOn n S a0 a1 l7_4).bind fun r17 =>
    jn (fun (j34_2 : Int32) (j34_3 : Int32) => (F_X1_homeOf_L7 n S a0 a1 K40 fu j34_2 j34_3 (l7_4 + (1 : Int32)) : Option Int32)) fun K34 =>
    if r17 ≤ l7_3 then (K34 l7_2 l7_3) else
    K34 l7_4 r17
def F_X1_homeOf (n : Nat) (S : aSt) (a0 : Nat) (a1 : Int32) : Option Int32 :=
jn (fun (x40_2 : Int32) => (some x40_2 : Option Int32)) fun K40 =>
F_X1_homeOf_L7 n S a0 a1 K40 n (0 : Int32) (0 : Int32) (0 : Int32)
set_option maxHeartbeats 4000000 in
set_option maxRecDepth 100000 in
theorem C_X1_homeOf (G : aG) (l : Launch) (n : Nat) (S : aSt) (a0 : Nat) (a1 : Int32) (r : Int32) (ha0 : isT a0 0 = true) (hf : F_X1_homeOf n S a0 a1 = some r) : Ctr G l yX1_homeOf mX1_homeOf (rmM 2) 97 97 S [.ref a0, .int a1] (some (.int r)) S := by
  refine Ctr.of (by decide) rfl rfl (Nat.le_of_ble_eq_true rfl) [(0, .ref a0), (1, .int a1)] rfl ?_
  unfold F_X1_homeOf at hf
  refine Go.iconst (0 : Int32) 1 rfl dX1_homeOf_0 ci_0 ?_
  refine Go.istore_n 2 [(2, .int (0 : Int32)), (0, .ref a0), (1, .int a1)] rfl dX1_homeOf_1 (by decide) rfl ?_
  refine Go.iconst (0 : Int32) 3 rfl dX1_homeOf_2 ci_0 ?_
  refine Go.istore_n 4 [(3, .int (0 : Int32)), (2, .int (0 : Int32)), (0, .ref a0), (1, .int a1)] rfl dX1_homeOf_3 (by decide) rfl ?_
  refine Go.iconst (0 : Int32) 5 rfl dX1_homeOf_4 ci_0 ?_
  refine Go.istore 7 [(4, .int (0 : Int32)), (3, .int (0 : Int32)), (2, .int (0 : Int32)), (0, .ref a0), (1, .int a1)] rfl dX1_homeOf_5 (by decide) rfl ?_
  obtain ⟨K40, eK40, hf⟩ := f_jn hf
  have J40 : ∀ (x40_2 : Int32), K40 x40_2 = some r → GoM G l 2 (TmR G (some (.int r)) 97 S 0 0) mX1_homeOf 40 [(2, .int x40_2)] [] S := by
    intro x40_2 hf
    rw [eK40] at hf
    refine Go.iload_n 0 41 rfl dX1_homeOf_40 rfl ?_
    exact Go.ir rfl dX1_homeOf_41 hf
  clear eK40
  have L7 : ∀ (fu : Nat) (l7_2 : Int32) (l7_3 : Int32) (l7_4 : Int32), F_X1_homeOf_L7 n S a0 a1 K40 fu l7_2 l7_3 l7_4 = some r → GoM G l 2 (TmR G (some (.int r)) 97 S 0 0) mX1_homeOf 7 [(0, .ref a0), (1, .int a1), (2, .int l7_2), (3, .int l7_3), (4, .int l7_4)] [] S := by
    intro fu
    induction fu with
    | zero => intro l7_2 l7_3 l7_4 hf; rw [F_X1_homeOf_L7] at hf; cases hf
    | succ fu ih =>
      intro l7_2 l7_3 l7_4 hf
      rw [F_X1_homeOf_L7] at hf
      refine Go.iload 4 9 rfl dX1_homeOf_7 rfl ?_
      refine Go.iconst (4 : Int32) 10 rfl dX1_homeOf_9 ci_4 ?_
      refine Go.icmp_ge 40 13 rfl dX1_homeOf_10 rfl (fun hc => ?_) (fun hc => ?_)
      · replace hf := f_if hf hc
        exact Go.sub [2] [(2, .int l7_2)] rfl (J40 l7_2 hf)
      · replace hf := f_el hf hc
        refine Go.aload_n 0 14 rfl dX1_homeOf_13 rfl ?_
        refine Go.iload_n 1 15 rfl dX1_homeOf_14 rfl ?_
        refine Go.iload 4 17 rfl dX1_homeOf_15 rfl ?_
        obtain ⟨r17, er17, hf⟩ := f_bnd hf
        refine Go.cV 20 [.int a1, .int l7_4] [] (C_X1_cardsOfOn G l n S a0 a1 l7_4 r17 ha0 er17) rfl dX1_homeOf_17 cv_X1_145 ha0 (by decide) (by decide) rfl (Nat.le_of_ble_eq_true rfl) ?_
        refine Go.istore 22 [(5, .int r17), (0, .ref a0), (1, .int a1), (2, .int l7_2), (3, .int l7_3), (4, .int l7_4)] rfl dX1_homeOf_20 (by decide) rfl ?_
        refine Go.iload 0 24 rfl dX1_homeOf_22 rfl ?_
        refine Go.iload_n 4 25 rfl dX1_homeOf_24 rfl ?_
        obtain ⟨K34, eK34, hf⟩ := f_jn hf
        have J34 : ∀ (j34_2 : Int32) (j34_3 : Int32), K34 j34_2 j34_3 = some r → GoM G l 2 (TmR G (some (.int r)) 97 S 0 0) mX1_homeOf 34 [(0, .ref a0), (1, .int a1), (2, .int j34_2), (3, .int j34_3), (4, .int l7_4)] [] S := by
          intro j34_2 j34_3 hf
          rw [eK34] at hf
          refine Go.inc 4 37 (1 : Int32) [(4, .int (l7_4 + (1 : Int32))), (0, .ref a0), (1, .int a1), (2, .int j34_2), (3, .int j34_3)] rfl dX1_homeOf_34 rfl ci_1 (by decide) rfl ?_
          refine Go.goto 7 dX1_homeOf_37 rfl ?_
          exact Go.sub [1, 2, 3, 4, 0] [(0, .ref a0), (1, .int a1), (2, .int j34_2), (3, .int j34_3), (4, .int (l7_4 + (1 : Int32)))] rfl (ih j34_2 j34_3 (l7_4 + (1 : Int32)) hf)
        clear eK34
        refine Go.icmp_le 34 28 rfl dX1_homeOf_25 rfl (fun hc => ?_) (fun hc => ?_)
        · replace hf := f_if hf hc
          exact Go.sub [1, 2, 3, 4, 5] [(0, .ref a0), (1, .int a1), (2, .int l7_2), (3, .int l7_3), (4, .int l7_4)] rfl (J34 l7_2 l7_3 hf)
        · replace hf := f_el hf hc
          refine Go.iload 0 30 rfl dX1_homeOf_28 rfl ?_
          refine Go.istore_n 31 [(3, .int r17), (5, .int r17), (0, .ref a0), (1, .int a1), (2, .int l7_2), (4, .int l7_4)] rfl dX1_homeOf_30 (by decide) rfl ?_
          refine Go.iload 5 33 rfl dX1_homeOf_31 rfl ?_
          refine Go.istore_n 34 [(2, .int l7_4), (3, .int r17), (5, .int r17), (0, .ref a0), (1, .int a1), (4, .int l7_4)] rfl dX1_homeOf_33 (by decide) rfl ?_
          exact Go.sub [3, 4, 0, 1, 5] [(0, .ref a0), (1, .int a1), (2, .int l7_4), (3, .int r17), (4, .int l7_4)] rfl (J34 l7_4 r17 hf)
  exact Go.sub [3, 4, 2, 1, 0] [(0, .ref a0), (1, .int a1), (2, .int (0 : Int32)), (3, .int (0 : Int32)), (4, .int (0 : Int32))] rfl (L7 n (0 : Int32) (0 : Int32) (0 : Int32) hf)
theorem dX1_strayCards_0 : decode cX1_strayCards 0 = .ok (.iconst 0, 1) := by decide +kernel
theorem dX1_strayCards_1 : decode cX1_strayCards 1 = .ok (.istore_n 1, 1) := by decide +kernel
theorem dX1_strayCards_2 : decode cX1_strayCards 2 = .ok (.iconst 0, 1) := by decide +kernel
theorem dX1_strayCards_3 : decode cX1_strayCards 3 = .ok (.istore_n 2, 1) := by decide +kernel
theorem dX1_strayCards_4 : decode cX1_strayCards 4 = .ok (.iload_n 2, 1) := by decide +kernel
theorem dX1_strayCards_5 : decode cX1_strayCards 5 = .ok (.aload_n 0, 1) := by decide +kernel
theorem dX1_strayCards_6 : decode cX1_strayCards 6 = .ok (.getfield 37, 3) := by decide +kernel
theorem dX1_strayCards_9 : decode cX1_strayCards 9 = .ok (.if_icmp .ge 37, 3) := by decide +kernel
theorem dX1_strayCards_12 : decode cX1_strayCards 12 = .ok (.aload_n 0, 1) := by decide +kernel
theorem dX1_strayCards_13 : decode cX1_strayCards 13 = .ok (.getfield 33, 3) := by decide +kernel
theorem dX1_strayCards_16 : decode cX1_strayCards 16 = .ok (.getfield 79, 3) := by decide +kernel
theorem dX1_strayCards_19 : decode cX1_strayCards 19 = .ok (.iload_n 2, 1) := by decide +kernel
theorem dX1_strayCards_20 : decode cX1_strayCards 20 = .ok (.iaload, 1) := by decide +kernel
theorem dX1_strayCards_21 : decode cX1_strayCards 21 = .ok (.aload_n 0, 1) := by decide +kernel
theorem dX1_strayCards_22 : decode cX1_strayCards 22 = .ok (.aload_n 0, 1) := by decide +kernel
theorem dX1_strayCards_23 : decode cX1_strayCards 23 = .ok (.getfield 9, 3) := by decide +kernel
theorem dX1_strayCards_26 : decode cX1_strayCards 26 = .ok (.iload_n 2, 1) := by decide +kernel
theorem dX1_strayCards_27 : decode cX1_strayCards 27 = .ok (.iaload, 1) := by decide +kernel
theorem dX1_strayCards_28 : decode cX1_strayCards 28 = .ok (.invokevirtual 148, 3) := by decide +kernel
theorem dX1_strayCards_31 : decode cX1_strayCards 31 = .ok (.if_icmp .eq 9, 3) := by decide +kernel
theorem dX1_strayCards_34 : decode cX1_strayCards 34 = .ok (.iload_n 1, 1) := by decide +kernel
theorem dX1_strayCards_35 : decode cX1_strayCards 35 = .ok (.iconst 1, 1) := by decide +kernel
theorem dX1_strayCards_36 : decode cX1_strayCards 36 = .ok (.iload_n 2, 1) := by decide +kernel
theorem dX1_strayCards_37 : decode cX1_strayCards 37 = .ok (.ishl, 1) := by decide +kernel
theorem dX1_strayCards_38 : decode cX1_strayCards 38 = .ok (.ior, 1) := by decide +kernel
theorem dX1_strayCards_39 : decode cX1_strayCards 39 = .ok (.istore_n 1, 1) := by decide +kernel
theorem dX1_strayCards_40 : decode cX1_strayCards 40 = .ok (.iinc 2 1, 3) := by decide +kernel
theorem dX1_strayCards_43 : decode cX1_strayCards 43 = .ok (.goto (-39), 3) := by decide +kernel
theorem dX1_strayCards_46 : decode cX1_strayCards 46 = .ok (.iload_n 1, 1) := by decide +kernel
theorem dX1_strayCards_47 : decode cX1_strayCards 47 = .ok (.ireturn, 1) := by decide +kernel
def F_X1_strayCards_L4 (n : Nat) (S : aSt) (a0 : Nat) (K46 : Int32 → Option Int32) : Nat → Int32 → Int32 → Option Int32
  | 0, _, _ => none
  | fu + 1, l4_1, l4_2 =>
    if (S.1 a0 7) ≤ l4_2 then (K46 l4_1) else
    rfd (S.2.2 a0 6) 4 fun k13 =>
    rfd (S.2.2 k13 0) 7 fun k16 =>
    grd (inb l4_2 (SH k16).2) <|
    rfd (S.2.2 a0 0) 7 fun k23 =>
    grd (inb l4_2 (SH k23).2) <|
    (F_X1_homeOf n S a0 (S.1 k23 l4_2.toNatClampNeg)).bind fun r28 =>
    jn (fun (j40_1 : Int32) => (F_X1_strayCards_L4 n S a0 K46 fu j40_1 (l4_2 + (1 : Int32)) : Option Int32)) fun K40 =>
    if (S.1 k16 l4_2.toNatClampNeg) = r28 then (K40 l4_1) else
    nm (l4_1 ||| ((1 : Int32) <<< (l4_2 &&& 31))) fun v39 =>
    K40 v39
def F_X1_strayCards (n : Nat) (S : aSt) (a0 : Nat) : Option Int32 :=
jn (fun (x46_1 : Int32) => (some x46_1 : Option Int32)) fun K46 =>
F_X1_strayCards_L4 n S a0 K46 n (0 : Int32) (0 : Int32)
set_option maxHeartbeats 4000000 in
set_option maxRecDepth 100000 in
theorem C_X1_strayCards (G : aG) (l : Launch) (n : Nat) (S : aSt) (a0 : Nat) (r : Int32) (ha0 : isT a0 0 = true) (hf : F_X1_strayCards n S a0 = some r) : Ctr G l yX1_strayCards mX1_strayCards (rmM 3) 97 97 S [.ref a0] (some (.int r)) S := by
  refine Ctr.of (by decide) rfl rfl (Nat.le_of_ble_eq_true rfl) [(0, .ref a0)] rfl ?_
  unfold F_X1_strayCards at hf
  refine Go.iconst (0 : Int32) 1 rfl dX1_strayCards_0 ci_0 ?_
  refine Go.istore_n 2 [(1, .int (0 : Int32)), (0, .ref a0)] rfl dX1_strayCards_1 (by decide) rfl ?_
  refine Go.iconst (0 : Int32) 3 rfl dX1_strayCards_2 ci_0 ?_
  refine Go.istore_n 4 [(2, .int (0 : Int32)), (1, .int (0 : Int32)), (0, .ref a0)] rfl dX1_strayCards_3 (by decide) rfl ?_
  obtain ⟨K46, eK46, hf⟩ := f_jn hf
  have J46 : ∀ (x46_1 : Int32), K46 x46_1 = some r → GoM G l 3 (TmR G (some (.int r)) 97 S 0 0) mX1_strayCards 46 [(1, .int x46_1)] [] S := by
    intro x46_1 hf
    rw [eK46] at hf
    refine Go.iload_n 0 47 rfl dX1_strayCards_46 rfl ?_
    exact Go.ir rfl dX1_strayCards_47 hf
  clear eK46
  have L4 : ∀ (fu : Nat) (l4_1 : Int32) (l4_2 : Int32), F_X1_strayCards_L4 n S a0 K46 fu l4_1 l4_2 = some r → GoM G l 3 (TmR G (some (.int r)) 97 S 0 0) mX1_strayCards 4 [(0, .ref a0), (1, .int l4_1), (2, .int l4_2)] [] S := by
    intro fu
    induction fu with
    | zero => intro l4_1 l4_2 hf; rw [F_X1_strayCards_L4] at hf; cases hf
    | succ fu ih =>
      intro l4_1 l4_2 hf
      rw [F_X1_strayCards_L4] at hf
      refine Go.iload_n 2 5 rfl dX1_strayCards_4 rfl ?_
      refine Go.aload_n 0 6 rfl dX1_strayCards_5 rfl ?_
      refine Go.getI 9 rfl dX1_strayCards_6 fl_X1_37 rfl (isT_lt ha0) (isT_sh ha0) ?_
      refine Go.icmp_ge 46 12 rfl dX1_strayCards_9 rfl (fun hc => ?_) (fun hc => ?_)
      · replace hf := f_if hf hc
        exact Go.sub [1] [(1, .int l4_1)] rfl (J46 l4_1 hf)
      · replace hf := f_el hf hc
        refine Go.aload_n 0 13 rfl dX1_strayCards_12 rfl ?_
        obtain ⟨k13, qk13, hk13, hf⟩ := f_rfd hf
        refine Go.getR 16 rfl dX1_strayCards_13 fl_X1_33 rfl (isT_lt ha0) (isT_sh ha0) qk13 ?_
        obtain ⟨k16, qk16, hk16, hf⟩ := f_rfd hf
        refine Go.getR 19 rfl dX1_strayCards_16 fl_X1_79 rfl (isT_lt hk13) (isT_sh hk13) qk16 ?_
        refine Go.iload_n 2 20 rfl dX1_strayCards_19 rfl ?_
        obtain ⟨g20, hf⟩ := f_grd hf
        refine Go.iald 21 rfl dX1_strayCards_20 (isT_lt hk16) (isT_sh hk16) g20 ?_
        refine Go.aload_n 0 22 rfl dX1_strayCards_21 rfl ?_
        refine Go.aload_n 0 23 rfl dX1_strayCards_22 rfl ?_
        obtain ⟨k23, qk23, hk23, hf⟩ := f_rfd hf
        refine Go.getR 26 rfl dX1_strayCards_23 fl_X1_9 rfl (isT_lt ha0) (isT_sh ha0) qk23 ?_
        refine Go.iload_n 2 27 rfl dX1_strayCards_26 rfl ?_
        obtain ⟨g27, hf⟩ := f_grd hf
        refine Go.iald 28 rfl dX1_strayCards_27 (isT_lt hk23) (isT_sh hk23) g27 ?_
        obtain ⟨r28, er28, hf⟩ := f_bnd hf
        refine Go.cV 31 [.int (S.1 k23 l4_2.toNatClampNeg)] [.int (S.1 k16 l4_2.toNatClampNeg)] (C_X1_homeOf G l n S a0 (S.1 k23 l4_2.toNatClampNeg) r28 ha0 er28) rfl dX1_strayCards_28 cv_X1_148 ha0 (by decide) (by decide) rfl (Nat.le_of_ble_eq_true rfl) ?_
        obtain ⟨K40, eK40, hf⟩ := f_jn hf
        have J40 : ∀ (j40_1 : Int32), K40 j40_1 = some r → GoM G l 3 (TmR G (some (.int r)) 97 S 0 0) mX1_strayCards 40 [(0, .ref a0), (1, .int j40_1), (2, .int l4_2)] [] S := by
          intro j40_1 hf
          rw [eK40] at hf
          refine Go.inc 2 43 (1 : Int32) [(2, .int (l4_2 + (1 : Int32))), (0, .ref a0), (1, .int j40_1)] rfl dX1_strayCards_40 rfl ci_1 (by decide) rfl ?_
          refine Go.goto 4 dX1_strayCards_43 rfl ?_
          exact Go.sub [1, 2, 0] [(0, .ref a0), (1, .int j40_1), (2, .int (l4_2 + (1 : Int32)))] rfl (ih j40_1 (l4_2 + (1 : Int32)) hf)
        clear eK40
        refine Go.icmp_eq 40 34 rfl dX1_strayCards_31 rfl (fun hc => ?_) (fun hc => ?_)
        · replace hf := f_if hf hc
          exact J40 l4_1 hf
        · replace hf := f_el hf hc
          refine Go.iload_n 1 35 rfl dX1_strayCards_34 rfl ?_
          refine Go.iconst (1 : Int32) 36 rfl dX1_strayCards_35 ci_1 ?_
          refine Go.iload_n 2 37 rfl dX1_strayCards_36 rfl ?_
          refine Go.ishl 38 rfl dX1_strayCards_37 ?_
          refine Go.ior 39 rfl dX1_strayCards_38 ?_
          obtain ⟨v39, ev39, hf⟩ := f_nm hf
          refine Go.topi v39 ev39 ?_
          refine Go.istore_n 40 [(1, .int v39), (0, .ref a0), (2, .int l4_2)] rfl dX1_strayCards_39 (by decide) rfl ?_
          exact Go.sub [1, 0, 2] [(0, .ref a0), (1, .int v39), (2, .int l4_2)] rfl (J40 v39 hf)
  exact Go.sub [2, 1, 0] [(0, .ref a0), (1, .int (0 : Int32)), (2, .int (0 : Int32))] rfl (L4 n (0 : Int32) (0 : Int32) hf)
end
section
/-! written by program: X1_mostStaying X1_fewestMoved X1_layByAge X1_cardByLot X1_foldInto -/
theorem dX1_mostStaying_0 : decode cX1_mostStaying 0 = .ok (.iload_n 3, 1) := by decide +kernel
theorem dX1_mostStaying_1 : decode cX1_mostStaying 1 = .ok (.invokestatic 140, 3) := by decide +kernel
theorem dX1_mostStaying_4 : decode cX1_mostStaying 4 = .ok (.iconst 4, 1) := by decide +kernel
theorem dX1_mostStaying_5 : decode cX1_mostStaying 5 = .ok (.iload_n 1, 1) := by decide +kernel
theorem dX1_mostStaying_6 : decode cX1_mostStaying 6 = .ok (.isub, 1) := by decide +kernel
theorem dX1_mostStaying_7 : decode cX1_mostStaying 7 = .ok (.if_icmp .le 5, 3) := by decide +kernel
theorem dX1_mostStaying_10 : decode cX1_mostStaying 10 = .ok (.iconst (-1), 1) := by decide +kernel
theorem dX1_mostStaying_11 : decode cX1_mostStaying 11 = .ok (.ireturn, 1) := by decide +kernel
theorem dX1_mostStaying_12 : decode cX1_mostStaying 12 = .ok (.iload_n 1, 1) := by decide +kernel
theorem dX1_mostStaying_13 : decode cX1_mostStaying 13 = .ok (.iconst 4, 1) := by decide +kernel
theorem dX1_mostStaying_14 : decode cX1_mostStaying 14 = .ok (.if_icmp .lt 5, 3) := by decide +kernel
theorem dX1_mostStaying_17 : decode cX1_mostStaying 17 = .ok (.iconst 0, 1) := by decide +kernel
theorem dX1_mostStaying_18 : decode cX1_mostStaying 18 = .ok (.ireturn, 1) := by decide +kernel
theorem dX1_mostStaying_19 : decode cX1_mostStaying 19 = .ok (.iconst (-1), 1) := by decide +kernel
theorem dX1_mostStaying_20 : decode cX1_mostStaying 20 = .ok (.istore 4, 2) := by decide +kernel
theorem dX1_mostStaying_22 : decode cX1_mostStaying 22 = .ok (.iconst 0, 1) := by decide +kernel
theorem dX1_mostStaying_23 : decode cX1_mostStaying 23 = .ok (.istore 5, 2) := by decide +kernel
theorem dX1_mostStaying_25 : decode cX1_mostStaying 25 = .ok (.iload 5, 2) := by decide +kernel
theorem dX1_mostStaying_27 : decode cX1_mostStaying 27 = .ok (.bipush 6, 2) := by decide +kernel
theorem dX1_mostStaying_29 : decode cX1_mostStaying 29 = .ok (.if_icmp .ge 59, 3) := by decide +kernel
theorem dX1_mostStaying_32 : decode cX1_mostStaying 32 = .ok (.iload_n 2, 1) := by decide +kernel
theorem dX1_mostStaying_33 : decode cX1_mostStaying 33 = .ok (.iconst 1, 1) := by decide +kernel
theorem dX1_mostStaying_34 : decode cX1_mostStaying 34 = .ok (.iload 5, 2) := by decide +kernel
theorem dX1_mostStaying_36 : decode cX1_mostStaying 36 = .ok (.ishl, 1) := by decide +kernel
theorem dX1_mostStaying_37 : decode cX1_mostStaying 37 = .ok (.iand, 1) := by decide +kernel
theorem dX1_mostStaying_38 : decode cX1_mostStaying 38 = .ok (.ifCond .eq 44, 3) := by decide +kernel
theorem dX1_mostStaying_41 : decode cX1_mostStaying 41 = .ok (.aload_n 0, 1) := by decide +kernel
theorem dX1_mostStaying_42 : decode cX1_mostStaying 42 = .ok (.iload_n 1, 1) := by decide +kernel
theorem dX1_mostStaying_43 : decode cX1_mostStaying 43 = .ok (.iconst 1, 1) := by decide +kernel
theorem dX1_mostStaying_44 : decode cX1_mostStaying 44 = .ok (.iadd, 1) := by decide +kernel
theorem dX1_mostStaying_45 : decode cX1_mostStaying 45 = .ok (.iload_n 2, 1) := by decide +kernel
theorem dX1_mostStaying_46 : decode cX1_mostStaying 46 = .ok (.iload_n 3, 1) := by decide +kernel
theorem dX1_mostStaying_47 : decode cX1_mostStaying 47 = .ok (.iconst 1, 1) := by decide +kernel
theorem dX1_mostStaying_48 : decode cX1_mostStaying 48 = .ok (.iload 5, 2) := by decide +kernel
theorem dX1_mostStaying_50 : decode cX1_mostStaying 50 = .ok (.ishl, 1) := by decide +kernel
theorem dX1_mostStaying_51 : decode cX1_mostStaying 51 = .ok (.iconst (-1), 1) := by decide +kernel
theorem dX1_mostStaying_52 : decode cX1_mostStaying 52 = .ok (.ixor, 1) := by decide +kernel
theorem dX1_mostStaying_53 : decode cX1_mostStaying 53 = .ok (.iand, 1) := by decide +kernel
theorem dX1_mostStaying_54 : decode cX1_mostStaying 54 = .ok (.invokestatic 151, 3) := by decide +kernel
theorem dX1_mostStaying_57 : decode cX1_mostStaying 57 = .ok (.istore 6, 2) := by decide +kernel
theorem dX1_mostStaying_59 : decode cX1_mostStaying 59 = .ok (.iload 6, 2) := by decide +kernel
theorem dX1_mostStaying_61 : decode cX1_mostStaying 61 = .ok (.iconst (-1), 1) := by decide +kernel
theorem dX1_mostStaying_62 : decode cX1_mostStaying 62 = .ok (.if_icmp .eq 20, 3) := by decide +kernel
theorem dX1_mostStaying_65 : decode cX1_mostStaying 65 = .ok (.iload 4, 2) := by decide +kernel
theorem dX1_mostStaying_67 : decode cX1_mostStaying 67 = .ok (.iload 6, 2) := by decide +kernel
theorem dX1_mostStaying_69 : decode cX1_mostStaying 69 = .ok (.aload_n 0, 1) := by decide +kernel
theorem dX1_mostStaying_70 : decode cX1_mostStaying 70 = .ok (.iload 5, 2) := by decide +kernel
theorem dX1_mostStaying_72 : decode cX1_mostStaying 72 = .ok (.iload_n 1, 1) := by decide +kernel
theorem dX1_mostStaying_73 : decode cX1_mostStaying 73 = .ok (.invokevirtual 145, 3) := by decide +kernel
theorem dX1_mostStaying_76 : decode cX1_mostStaying 76 = .ok (.iadd, 1) := by decide +kernel
theorem dX1_mostStaying_77 : decode cX1_mostStaying 77 = .ok (.invokestatic 85, 3) := by decide +kernel
theorem dX1_mostStaying_80 : decode cX1_mostStaying 80 = .ok (.istore 4, 2) := by decide +kernel
theorem dX1_mostStaying_82 : decode cX1_mostStaying 82 = .ok (.iinc 5 1, 3) := by decide +kernel
theorem dX1_mostStaying_85 : decode cX1_mostStaying 85 = .ok (.goto (-60), 3) := by decide +kernel
theorem dX1_mostStaying_88 : decode cX1_mostStaying 88 = .ok (.iload 4, 2) := by decide +kernel
theorem dX1_mostStaying_90 : decode cX1_mostStaying 90 = .ok (.ireturn, 1) := by decide +kernel
def F_X1_mostStaying_L25 (n : Nat) (S : aSt) (a0 : Nat) (a1 : Int32) (a2 : Int32) (a3 : Int32) (self : aSt → Nat → Int32 → Int32 → Int32 → Option Int32) (K88 : Int32 → Option Int32) : Nat → Int32 → Int32 → Option Int32
  | 0, _, _ => none
  | fu + 1, l25_4, l25_5 =>
    if (6 : Int32) ≤ l25_5 then (K88 l25_4) else
    jn (fun (j82_4 : Int32) => (F_X1_mostStaying_L25 n S a0 a1 a2 a3 self K88 fu j82_4 (l25_5 + (1 : Int32)) : Option Int32)) fun K82 =>
    if (a2 &&& ((1 : Int32) <<< (l25_5 &&& 31))) = 0 then (K82 l25_4) else
    (self S a0 (a1 + (1 : Int32)) a2 (a3 &&& (((1 : Int32) <<< (l25_5 &&& 31)) ^^^ (-1 : Int32)))).bind fun r54 =>
    if r54 = (-1 : Int32) then (K82 l25_4) else
    (F_X1_cardsOfOn n S a0 l25_5 a1).bind fun r73 =>
    nm (if l25_4 < (r54 + r73) then (r54 + r73) else l25_4) fun v80 =>
    K82 v80
def F_X1_mostStaying_B (n : Nat) (self : aSt → Nat → Int32 → Int32 → Int32 → Option Int32) (S : aSt) (a0 : Nat) (a1 : Int32) (a2 : Int32) (a3 : Int32) : Option Int32 :=
(F_J6_bitCount_0f7a4 n S a3).bind fun r1 =>
if r1 ≤ ((4 : Int32) - a1) then (if a1 < (4 : Int32) then (jn (fun (x88_4 : Int32) => (some x88_4 : Option Int32)) fun K88 =>
F_X1_mostStaying_L25 n S a0 a1 a2 a3 self K88 n (-1 : Int32) (0 : Int32)) else
some (0 : Int32)) else
some (-1 : Int32)
def F_X1_mostStaying_D (n : Nat) : Nat → aSt → Nat → Int32 → Int32 → Int32 → Option Int32
  | 0 => fun _ _ _ _ _ => none
  | dp + 1 => fun S a0 a1 a2 a3 => F_X1_mostStaying_B n (F_X1_mostStaying_D n dp) S a0 a1 a2 a3
def F_X1_mostStaying (n : Nat) (S : aSt) (a0 : Nat) (a1 : Int32) (a2 : Int32) (a3 : Int32) : Option Int32 := F_X1_mostStaying_D n 7 S a0 a1 a2 a3
set_option maxHeartbeats 4000000 in
set_option maxRecDepth 100000 in
theorem C_X1_mostStaying_D (G : aG) (l : Launch) (n : Nat) : ∀ (dp : Nat), dp ≤ 8 → ∀ (S : aSt) (a0 : Nat) (a1 : Int32) (a2 : Int32) (a3 : Int32) (r : Int32) (ha0 : isT a0 0 = true), F_X1_mostStaying_D n dp S a0 a1 a2 a3 = some r → Ctr G l yX1_mostStaying mX1_mostStaying (rmM (2 + dp)) 97 97 S [.ref a0, .int a1, .int a2, .int a3] (some (.int r)) S := by
  intro dp
  induction dp with
  | zero => intro _ S a0 a1 a2 a3 r _ hf; rw [F_X1_mostStaying_D] at hf; cases hf
  | succ dp hself0 =>
    intro hdp S a0 a1 a2 a3 r ha0 hf
    have hself := hself0 (by omega)
    rw [F_X1_mostStaying_D] at hf
    unfold F_X1_mostStaying_B at hf
    generalize F_X1_mostStaying_D n dp = self at hf hself
    refine Ctr.of (by decide) rfl rfl (Nat.le_of_ble_eq_true rfl) [(0, .ref a0), (1, .int a1), (2, .int a2), (3, .int a3)] rfl ?_
    refine Go.iload_n 3 1 rfl dX1_mostStaying_0 rfl ?_
    obtain ⟨r1, er1, hf⟩ := f_bnd hf
    refine Go.cS 4 [.int a3] [] (C_J6_bitCount_0f7a4 G l n S a3 r1  er1) rfl dX1_mostStaying_1 cx_X1_140 (by omega) (by decide) rfl (Nat.le_of_ble_eq_true rfl) ?_
    refine Go.iconst (4 : Int32) 5 rfl dX1_mostStaying_4 ci_4 ?_
    refine Go.iload_n 1 6 rfl dX1_mostStaying_5 rfl ?_
    refine Go.isub 7 rfl dX1_mostStaying_6 ?_
    refine Go.icmp_le 12 10 rfl dX1_mostStaying_7 rfl (fun hc => ?_) (fun hc => ?_)
    · replace hf := f_if hf hc
      refine Go.iload_n 1 13 rfl dX1_mostStaying_12 rfl ?_
      refine Go.iconst (4 : Int32) 14 rfl dX1_mostStaying_13 ci_4 ?_
      refine Go.icmp_lt 19 17 rfl dX1_mostStaying_14 rfl (fun hc => ?_) (fun hc => ?_)
      · replace hf := f_if hf hc
        refine Go.iconst (-1 : Int32) 20 rfl dX1_mostStaying_19 ci_m1 ?_
        refine Go.istore 22 [(4, .int (-1 : Int32)), (0, .ref a0), (1, .int a1), (2, .int a2), (3, .int a3)] rfl dX1_mostStaying_20 (by decide) rfl ?_
        refine Go.iconst (0 : Int32) 23 rfl dX1_mostStaying_22 ci_0 ?_
        refine Go.istore 25 [(5, .int (0 : Int32)), (4, .int (-1 : Int32)), (0, .ref a0), (1, .int a1), (2, .int a2), (3, .int a3)] rfl dX1_mostStaying_23 (by decide) rfl ?_
        obtain ⟨K88, eK88, hf⟩ := f_jn hf
        have J88 : ∀ (x88_4 : Int32), K88 x88_4 = some r → GoM G l (2 + (dp + 1)) (TmR G (some (.int r)) 97 S 0 0) mX1_mostStaying 88 [(4, .int x88_4)] [] S := by
          intro x88_4 hf
          rw [eK88] at hf
          refine Go.iload 0 90 rfl dX1_mostStaying_88 rfl ?_
          exact Go.ir rfl dX1_mostStaying_90 hf
        clear eK88
        have L25 : ∀ (fu : Nat) (l25_4 : Int32) (l25_5 : Int32), F_X1_mostStaying_L25 n S a0 a1 a2 a3 self K88 fu l25_4 l25_5 = some r → GoM G l (2 + (dp + 1)) (TmR G (some (.int r)) 97 S 0 0) mX1_mostStaying 25 [(0, .ref a0), (1, .int a1), (2, .int a2), (3, .int a3), (4, .int l25_4), (5, .int l25_5)] [] S := by
          intro fu
          induction fu with
          | zero => intro l25_4 l25_5 hf; rw [F_X1_mostStaying_L25] at hf; cases hf
          | succ fu ih =>
            intro l25_4 l25_5 hf
            rw [F_X1_mostStaying_L25] at hf
            refine Go.iload 5 27 rfl dX1_mostStaying_25 rfl ?_
            refine Go.bipush (6 : Int32) 29 rfl dX1_mostStaying_27 cb_6 ?_
            refine Go.icmp_ge 88 32 rfl dX1_mostStaying_29 rfl (fun hc => ?_) (fun hc => ?_)
            · replace hf := f_if hf hc
              exact Go.sub [4] [(4, .int l25_4)] rfl (J88 l25_4 hf)
            · replace hf := f_el hf hc
              refine Go.iload_n 2 33 rfl dX1_mostStaying_32 rfl ?_
              refine Go.iconst (1 : Int32) 34 rfl dX1_mostStaying_33 ci_1 ?_
              refine Go.iload 5 36 rfl dX1_mostStaying_34 rfl ?_
              refine Go.ishl 37 rfl dX1_mostStaying_36 ?_
              refine Go.iand 38 rfl dX1_mostStaying_37 ?_
              obtain ⟨K82, eK82, hf⟩ := f_jn hf
              have J82 : ∀ (j82_4 : Int32), K82 j82_4 = some r → GoM G l (2 + (dp + 1)) (TmR G (some (.int r)) 97 S 0 0) mX1_mostStaying 82 [(0, .ref a0), (1, .int a1), (2, .int a2), (3, .int a3), (4, .int j82_4), (5, .int l25_5)] [] S := by
                intro j82_4 hf
                rw [eK82] at hf
                refine Go.inc 5 85 (1 : Int32) [(5, .int (l25_5 + (1 : Int32))), (0, .ref a0), (1, .int a1), (2, .int a2), (3, .int a3), (4, .int j82_4)] rfl dX1_mostStaying_82 rfl ci_1 (by decide) rfl ?_
                refine Go.goto 25 dX1_mostStaying_85 rfl ?_
                exact Go.sub [1, 2, 3, 4, 5, 0] [(0, .ref a0), (1, .int a1), (2, .int a2), (3, .int a3), (4, .int j82_4), (5, .int (l25_5 + (1 : Int32)))] rfl (ih j82_4 (l25_5 + (1 : Int32)) hf)
              clear eK82
              refine Go.if_eq 82 41 rfl dX1_mostStaying_38 rfl (fun hc => ?_) (fun hc => ?_)
              · replace hf := f_if hf hc
                exact J82 l25_4 hf
              · replace hf := f_el hf hc
                refine Go.aload_n 0 42 rfl dX1_mostStaying_41 rfl ?_
                refine Go.iload_n 1 43 rfl dX1_mostStaying_42 rfl ?_
                refine Go.iconst (1 : Int32) 44 rfl dX1_mostStaying_43 ci_1 ?_
                refine Go.iadd 45 rfl dX1_mostStaying_44 ?_
                refine Go.iload_n 2 46 rfl dX1_mostStaying_45 rfl ?_
                refine Go.iload_n 3 47 rfl dX1_mostStaying_46 rfl ?_
                refine Go.iconst (1 : Int32) 48 rfl dX1_mostStaying_47 ci_1 ?_
                refine Go.iload 5 50 rfl dX1_mostStaying_48 rfl ?_
                refine Go.ishl 51 rfl dX1_mostStaying_50 ?_
                refine Go.iconst (-1 : Int32) 52 rfl dX1_mostStaying_51 ci_m1 ?_
                refine Go.ixor 53 rfl dX1_mostStaying_52 ?_
                refine Go.iand 54 rfl dX1_mostStaying_53 ?_
                obtain ⟨r54, er54, hf⟩ := f_bnd hf
                refine Go.cS 57 [.ref a0, .int (a1 + (1 : Int32)), .int a2, .int (a3 &&& (((1 : Int32) <<< (l25_5 &&& 31)) ^^^ (-1 : Int32)))] [] (hself S a0 (a1 + (1 : Int32)) a2 (a3 &&& (((1 : Int32) <<< (l25_5 &&& 31)) ^^^ (-1 : Int32))) r54 ha0 er54) rfl dX1_mostStaying_54 cx_X1_151 (by omega) (by decide) rfl (Nat.le_of_ble_eq_true rfl) ?_
                refine Go.istore 59 [(6, .int r54), (0, .ref a0), (1, .int a1), (2, .int a2), (3, .int a3), (4, .int l25_4), (5, .int l25_5)] rfl dX1_mostStaying_57 (by decide) rfl ?_
                refine Go.iload 0 61 rfl dX1_mostStaying_59 rfl ?_
                refine Go.iconst (-1 : Int32) 62 rfl dX1_mostStaying_61 ci_m1 ?_
                refine Go.icmp_eq 82 65 rfl dX1_mostStaying_62 rfl (fun hc => ?_) (fun hc => ?_)
                · replace hf := f_if hf hc
                  exact Go.sub [1, 2, 3, 4, 5, 6] [(0, .ref a0), (1, .int a1), (2, .int a2), (3, .int a3), (4, .int l25_4), (5, .int l25_5)] rfl (J82 l25_4 hf)
                · replace hf := f_el hf hc
                  refine Go.iload 5 67 rfl dX1_mostStaying_65 rfl ?_
                  refine Go.iload 0 69 rfl dX1_mostStaying_67 rfl ?_
                  refine Go.aload_n 1 70 rfl dX1_mostStaying_69 rfl ?_
                  refine Go.iload 6 72 rfl dX1_mostStaying_70 rfl ?_
                  refine Go.iload_n 2 73 rfl dX1_mostStaying_72 rfl ?_
                  obtain ⟨r73, er73, hf⟩ := f_bnd hf
                  refine Go.cV 76 [.int l25_5, .int a1] [.int r54, .int l25_4] (C_X1_cardsOfOn G l n S a0 l25_5 a1 r73 ha0 er73) rfl dX1_mostStaying_73 cv_X1_145 ha0 (by omega) (by decide) rfl (Nat.le_of_ble_eq_true rfl) ?_
                  refine Go.iadd 77 rfl dX1_mostStaying_76 ?_
                  refine Go.mmax 80 rfl dX1_mostStaying_77 (am_mem 372 (by decide +kernel) rfl) (am_mem 237 (by decide +kernel) rfl) (am_mem 59 (by decide +kernel) rfl) (am_mem 238 (by decide +kernel) rfl) (Nat.le_of_ble_eq_true rfl) ?_
                  obtain ⟨v80, ev80, hf⟩ := f_nm hf
                  refine Go.topi v80 ev80 ?_
                  refine Go.istore 82 [(4, .int v80), (6, .int r54), (0, .ref a0), (1, .int a1), (2, .int a2), (3, .int a3), (5, .int l25_5)] rfl dX1_mostStaying_80 (by decide) rfl ?_
                  exact Go.sub [2, 3, 4, 5, 0, 6] [(0, .ref a0), (1, .int a1), (2, .int a2), (3, .int a3), (4, .int v80), (5, .int l25_5)] rfl (J82 v80 hf)
        exact Go.sub [2, 3, 4, 5, 1, 0] [(0, .ref a0), (1, .int a1), (2, .int a2), (3, .int a3), (4, .int (-1 : Int32)), (5, .int (0 : Int32))] rfl (L25 n (-1 : Int32) (0 : Int32) hf)
      · replace hf := f_el hf hc
        refine Go.iconst (0 : Int32) 18 rfl dX1_mostStaying_17 ci_0 ?_
        exact Go.ir rfl dX1_mostStaying_18 hf
    · replace hf := f_el hf hc
      refine Go.iconst (-1 : Int32) 11 rfl dX1_mostStaying_10 ci_m1 ?_
      exact Go.ir rfl dX1_mostStaying_11 hf
theorem C_X1_mostStaying (G : aG) (l : Launch) (n : Nat) (S : aSt) (a0 : Nat) (a1 : Int32) (a2 : Int32) (a3 : Int32) (r : Int32) (ha0 : isT a0 0 = true) (hf : F_X1_mostStaying n S a0 a1 a2 a3 = some r) : Ctr G l yX1_mostStaying mX1_mostStaying (rmM 9) 97 97 S [.ref a0, .int a1, .int a2, .int a3] (some (.int r)) S := C_X1_mostStaying_D G l n 7 (by decide) S a0 a1 a2 a3 r ha0 hf
theorem dX1_fewestMoved_0 : decode cX1_fewestMoved 0 = .ok (.iconst 0, 1) := by decide +kernel
theorem dX1_fewestMoved_1 : decode cX1_fewestMoved 1 = .ok (.istore_n 1, 1) := by decide +kernel
theorem dX1_fewestMoved_2 : decode cX1_fewestMoved 2 = .ok (.iconst 0, 1) := by decide +kernel
theorem dX1_fewestMoved_3 : decode cX1_fewestMoved 3 = .ok (.istore_n 2, 1) := by decide +kernel
theorem dX1_fewestMoved_4 : decode cX1_fewestMoved 4 = .ok (.iload_n 2, 1) := by decide +kernel
theorem dX1_fewestMoved_5 : decode cX1_fewestMoved 5 = .ok (.aload_n 0, 1) := by decide +kernel
theorem dX1_fewestMoved_6 : decode cX1_fewestMoved 6 = .ok (.getfield 37, 3) := by decide +kernel
theorem dX1_fewestMoved_9 : decode cX1_fewestMoved 9 = .ok (.if_icmp .ge 20, 3) := by decide +kernel
theorem dX1_fewestMoved_12 : decode cX1_fewestMoved 12 = .ok (.iload_n 1, 1) := by decide +kernel
theorem dX1_fewestMoved_13 : decode cX1_fewestMoved 13 = .ok (.iconst 1, 1) := by decide +kernel
theorem dX1_fewestMoved_14 : decode cX1_fewestMoved 14 = .ok (.aload_n 0, 1) := by decide +kernel
theorem dX1_fewestMoved_15 : decode cX1_fewestMoved 15 = .ok (.getfield 9, 3) := by decide +kernel
theorem dX1_fewestMoved_18 : decode cX1_fewestMoved 18 = .ok (.iload_n 2, 1) := by decide +kernel
theorem dX1_fewestMoved_19 : decode cX1_fewestMoved 19 = .ok (.iaload, 1) := by decide +kernel
theorem dX1_fewestMoved_20 : decode cX1_fewestMoved 20 = .ok (.ishl, 1) := by decide +kernel
theorem dX1_fewestMoved_21 : decode cX1_fewestMoved 21 = .ok (.ior, 1) := by decide +kernel
theorem dX1_fewestMoved_22 : decode cX1_fewestMoved 22 = .ok (.istore_n 1, 1) := by decide +kernel
theorem dX1_fewestMoved_23 : decode cX1_fewestMoved 23 = .ok (.iinc 2 1, 3) := by decide +kernel
theorem dX1_fewestMoved_26 : decode cX1_fewestMoved 26 = .ok (.goto (-22), 3) := by decide +kernel
theorem dX1_fewestMoved_29 : decode cX1_fewestMoved 29 = .ok (.iload_n 1, 1) := by decide +kernel
theorem dX1_fewestMoved_30 : decode cX1_fewestMoved 30 = .ok (.invokestatic 140, 3) := by decide +kernel
theorem dX1_fewestMoved_33 : decode cX1_fewestMoved 33 = .ok (.iconst 4, 1) := by decide +kernel
theorem dX1_fewestMoved_34 : decode cX1_fewestMoved 34 = .ok (.if_icmp .le 6, 3) := by decide +kernel
theorem dX1_fewestMoved_37 : decode cX1_fewestMoved 37 = .ok (.bipush (-9), 2) := by decide +kernel
theorem dX1_fewestMoved_39 : decode cX1_fewestMoved 39 = .ok (.ireturn, 1) := by decide +kernel
theorem dX1_fewestMoved_40 : decode cX1_fewestMoved 40 = .ok (.aload_n 0, 1) := by decide +kernel
theorem dX1_fewestMoved_41 : decode cX1_fewestMoved 41 = .ok (.getfield 37, 3) := by decide +kernel
theorem dX1_fewestMoved_44 : decode cX1_fewestMoved 44 = .ok (.ifCond .ne 7, 3) := by decide +kernel
theorem dX1_fewestMoved_47 : decode cX1_fewestMoved 47 = .ok (.iconst 0, 1) := by decide +kernel
theorem dX1_fewestMoved_48 : decode cX1_fewestMoved 48 = .ok (.goto 15, 3) := by decide +kernel
theorem dX1_fewestMoved_51 : decode cX1_fewestMoved 51 = .ok (.aload_n 0, 1) := by decide +kernel
theorem dX1_fewestMoved_52 : decode cX1_fewestMoved 52 = .ok (.getfield 37, 3) := by decide +kernel
theorem dX1_fewestMoved_55 : decode cX1_fewestMoved 55 = .ok (.aload_n 0, 1) := by decide +kernel
theorem dX1_fewestMoved_56 : decode cX1_fewestMoved 56 = .ok (.iconst 0, 1) := by decide +kernel
theorem dX1_fewestMoved_57 : decode cX1_fewestMoved 57 = .ok (.iload_n 1, 1) := by decide +kernel
theorem dX1_fewestMoved_58 : decode cX1_fewestMoved 58 = .ok (.iload_n 1, 1) := by decide +kernel
theorem dX1_fewestMoved_59 : decode cX1_fewestMoved 59 = .ok (.invokestatic 151, 3) := by decide +kernel
theorem dX1_fewestMoved_62 : decode cX1_fewestMoved 62 = .ok (.isub, 1) := by decide +kernel
theorem dX1_fewestMoved_63 : decode cX1_fewestMoved 63 = .ok (.ireturn, 1) := by decide +kernel
def F_X1_fewestMoved_L4 (S : aSt) (a0 : Nat) (K29 : Int32 → Option Int32) : Nat → Int32 → Int32 → Option Int32
  | 0, _, _ => none
  | fu + 1, l4_1, l4_2 =>
    if (S.1 a0 7) ≤ l4_2 then (K29 l4_1) else
    rfd (S.2.2 a0 0) 7 fun k15 =>
    grd (inb l4_2 (SH k15).2) <|
    nm (l4_1 ||| ((1 : Int32) <<< ((S.1 k15 l4_2.toNatClampNeg) &&& 31))) fun v22 =>
    F_X1_fewestMoved_L4 S a0 K29 fu v22 (l4_2 + (1 : Int32))
def F_X1_fewestMoved (n : Nat) (S : aSt) (a0 : Nat) : Option Int32 :=
jn (fun (x29_1 : Int32) => ((F_J6_bitCount_0f7a4 n S x29_1).bind fun r30 =>
if r30 ≤ (4 : Int32) then (if (S.1 a0 7) = 0 then (some (0 : Int32)) else
(F_X1_mostStaying n S a0 (0 : Int32) x29_1 x29_1).bind fun r59 =>
some ((S.1 a0 7) - r59)) else
some (-9 : Int32) : Option Int32)) fun K29 =>
F_X1_fewestMoved_L4 S a0 K29 n (0 : Int32) (0 : Int32)
set_option maxHeartbeats 4000000 in
set_option maxRecDepth 100000 in
theorem C_X1_fewestMoved (G : aG) (l : Launch) (n : Nat) (S : aSt) (a0 : Nat) (r : Int32) (ha0 : isT a0 0 = true) (hf : F_X1_fewestMoved n S a0 = some r) : Ctr G l yX1_fewestMoved mX1_fewestMoved (rmM 11) 97 97 S [.ref a0] (some (.int r)) S := by
  refine Ctr.of (by decide) rfl rfl (Nat.le_of_ble_eq_true rfl) [(0, .ref a0)] rfl ?_
  unfold F_X1_fewestMoved at hf
  refine Go.iconst (0 : Int32) 1 rfl dX1_fewestMoved_0 ci_0 ?_
  refine Go.istore_n 2 [(1, .int (0 : Int32)), (0, .ref a0)] rfl dX1_fewestMoved_1 (by decide) rfl ?_
  refine Go.iconst (0 : Int32) 3 rfl dX1_fewestMoved_2 ci_0 ?_
  refine Go.istore_n 4 [(2, .int (0 : Int32)), (1, .int (0 : Int32)), (0, .ref a0)] rfl dX1_fewestMoved_3 (by decide) rfl ?_
  obtain ⟨K29, eK29, hf⟩ := f_jn hf
  have J29 : ∀ (x29_1 : Int32), K29 x29_1 = some r → GoM G l 11 (TmR G (some (.int r)) 97 S 0 0) mX1_fewestMoved 29 [(0, .ref a0), (1, .int x29_1)] [] S := by
    intro x29_1 hf
    rw [eK29] at hf
    refine Go.iload_n 1 30 rfl dX1_fewestMoved_29 rfl ?_
    obtain ⟨r30, er30, hf⟩ := f_bnd hf
    refine Go.cS 33 [.int x29_1] [] (C_J6_bitCount_0f7a4 G l n S x29_1 r30  er30) rfl dX1_fewestMoved_30 cx_X1_140 (by decide) (by decide) rfl (Nat.le_of_ble_eq_true rfl) ?_
    refine Go.iconst (4 : Int32) 34 rfl dX1_fewestMoved_33 ci_4 ?_
    refine Go.icmp_le 40 37 rfl dX1_fewestMoved_34 rfl (fun hc => ?_) (fun hc => ?_)
    · replace hf := f_if hf hc
      refine Go.aload_n 0 41 rfl dX1_fewestMoved_40 rfl ?_
      refine Go.getI 44 rfl dX1_fewestMoved_41 fl_X1_37 rfl (isT_lt ha0) (isT_sh ha0) ?_
      refine Go.if_ne 51 47 rfl dX1_fewestMoved_44 rfl (fun hc => ?_) (fun hc => ?_)
      · replace hf := f_el hf hc
        refine Go.aload_n 0 52 rfl dX1_fewestMoved_51 rfl ?_
        refine Go.getI 55 rfl dX1_fewestMoved_52 fl_X1_37 rfl (isT_lt ha0) (isT_sh ha0) ?_
        refine Go.aload_n 0 56 rfl dX1_fewestMoved_55 rfl ?_
        refine Go.iconst (0 : Int32) 57 rfl dX1_fewestMoved_56 ci_0 ?_
        refine Go.iload_n 1 58 rfl dX1_fewestMoved_57 rfl ?_
        refine Go.iload_n 1 59 rfl dX1_fewestMoved_58 rfl ?_
        obtain ⟨r59, er59, hf⟩ := f_bnd hf
        refine Go.cS 62 [.ref a0, .int (0 : Int32), .int x29_1, .int x29_1] [.int (S.1 a0 7)] (C_X1_mostStaying G l n S a0 (0 : Int32) x29_1 x29_1 r59 ha0 er59) rfl dX1_fewestMoved_59 cx_X1_151 (by decide) (by decide) rfl (Nat.le_of_ble_eq_true rfl) ?_
        refine Go.isub 63 rfl dX1_fewestMoved_62 ?_
        exact Go.ir rfl dX1_fewestMoved_63 hf
      · replace hf := f_if hf hc
        refine Go.iconst (0 : Int32) 48 rfl dX1_fewestMoved_47 ci_0 ?_
        refine Go.goto 63 dX1_fewestMoved_48 rfl ?_
        exact Go.ir rfl dX1_fewestMoved_63 hf
    · replace hf := f_el hf hc
      refine Go.bipush (-9 : Int32) 39 rfl dX1_fewestMoved_37 cb_m9 ?_
      exact Go.ir rfl dX1_fewestMoved_39 hf
  clear eK29
  have L4 : ∀ (fu : Nat) (l4_1 : Int32) (l4_2 : Int32), F_X1_fewestMoved_L4 S a0 K29 fu l4_1 l4_2 = some r → GoM G l 11 (TmR G (some (.int r)) 97 S 0 0) mX1_fewestMoved 4 [(0, .ref a0), (1, .int l4_1), (2, .int l4_2)] [] S := by
    intro fu
    induction fu with
    | zero => intro l4_1 l4_2 hf; rw [F_X1_fewestMoved_L4] at hf; cases hf
    | succ fu ih =>
      intro l4_1 l4_2 hf
      rw [F_X1_fewestMoved_L4] at hf
      refine Go.iload_n 2 5 rfl dX1_fewestMoved_4 rfl ?_
      refine Go.aload_n 0 6 rfl dX1_fewestMoved_5 rfl ?_
      refine Go.getI 9 rfl dX1_fewestMoved_6 fl_X1_37 rfl (isT_lt ha0) (isT_sh ha0) ?_
      refine Go.icmp_ge 29 12 rfl dX1_fewestMoved_9 rfl (fun hc => ?_) (fun hc => ?_)
      · replace hf := f_if hf hc
        exact Go.sub [0, 1] [(0, .ref a0), (1, .int l4_1)] rfl (J29 l4_1 hf)
      · replace hf := f_el hf hc
        refine Go.iload_n 1 13 rfl dX1_fewestMoved_12 rfl ?_
        refine Go.iconst (1 : Int32) 14 rfl dX1_fewestMoved_13 ci_1 ?_
        refine Go.aload_n 0 15 rfl dX1_fewestMoved_14 rfl ?_
        obtain ⟨k15, qk15, hk15, hf⟩ := f_rfd hf
        refine Go.getR 18 rfl dX1_fewestMoved_15 fl_X1_9 rfl (isT_lt ha0) (isT_sh ha0) qk15 ?_
        refine Go.iload_n 2 19 rfl dX1_fewestMoved_18 rfl ?_
        obtain ⟨g19, hf⟩ := f_grd hf
        refine Go.iald 20 rfl dX1_fewestMoved_19 (isT_lt hk15) (isT_sh hk15) g19 ?_
        refine Go.ishl 21 rfl dX1_fewestMoved_20 ?_
        refine Go.ior 22 rfl dX1_fewestMoved_21 ?_
        obtain ⟨v22, ev22, hf⟩ := f_nm hf
        refine Go.topi v22 ev22 ?_
        refine Go.istore_n 23 [(1, .int v22), (0, .ref a0), (2, .int l4_2)] rfl dX1_fewestMoved_22 (by decide) rfl ?_
        refine Go.inc 2 26 (1 : Int32) [(2, .int (l4_2 + (1 : Int32))), (1, .int v22), (0, .ref a0)] rfl dX1_fewestMoved_23 rfl ci_1 (by decide) rfl ?_
        refine Go.goto 4 dX1_fewestMoved_26 rfl ?_
        exact Go.sub [2, 1, 0] [(0, .ref a0), (1, .int v22), (2, .int (l4_2 + (1 : Int32)))] rfl (ih v22 (l4_2 + (1 : Int32)) hf)
  exact Go.sub [2, 1, 0] [(0, .ref a0), (1, .int (0 : Int32)), (2, .int (0 : Int32))] rfl (L4 n (0 : Int32) (0 : Int32) hf)
theorem dX1_layByAge_0 : decode cX1_layByAge 0 = .ok (.aload_n 1, 1) := by decide +kernel
theorem dX1_layByAge_1 : decode cX1_layByAge 1 = .ok (.aload_n 0, 1) := by decide +kernel
theorem dX1_layByAge_2 : decode cX1_layByAge 2 = .ok (.getfield 37, 3) := by decide +kernel
theorem dX1_layByAge_5 : decode cX1_layByAge 5 = .ok (.iconst 0, 1) := by decide +kernel
theorem dX1_layByAge_6 : decode cX1_layByAge 6 = .ok (.invokevirtual 155, 3) := by decide +kernel
theorem dX1_layByAge_9 : decode cX1_layByAge 9 = .ok (.iconst 0, 1) := by decide +kernel
theorem dX1_layByAge_10 : decode cX1_layByAge 10 = .ok (.istore_n 2, 1) := by decide +kernel
theorem dX1_layByAge_11 : decode cX1_layByAge 11 = .ok (.bipush 9, 2) := by decide +kernel
theorem dX1_layByAge_13 : decode cX1_layByAge 13 = .ok (.istore_n 3, 1) := by decide +kernel
theorem dX1_layByAge_14 : decode cX1_layByAge 14 = .ok (.iload_n 3, 1) := by decide +kernel
theorem dX1_layByAge_15 : decode cX1_layByAge 15 = .ok (.ifCond .lt 51, 3) := by decide +kernel
theorem dX1_layByAge_18 : decode cX1_layByAge 18 = .ok (.iconst 0, 1) := by decide +kernel
theorem dX1_layByAge_19 : decode cX1_layByAge 19 = .ok (.istore 4, 2) := by decide +kernel
theorem dX1_layByAge_21 : decode cX1_layByAge 21 = .ok (.iload 4, 2) := by decide +kernel
theorem dX1_layByAge_23 : decode cX1_layByAge 23 = .ok (.aload_n 0, 1) := by decide +kernel
theorem dX1_layByAge_24 : decode cX1_layByAge 24 = .ok (.getfield 37, 3) := by decide +kernel
theorem dX1_layByAge_27 : decode cX1_layByAge 27 = .ok (.if_icmp .ge 33, 3) := by decide +kernel
theorem dX1_layByAge_30 : decode cX1_layByAge 30 = .ok (.aload_n 0, 1) := by decide +kernel
theorem dX1_layByAge_31 : decode cX1_layByAge 31 = .ok (.getfield 33, 3) := by decide +kernel
theorem dX1_layByAge_34 : decode cX1_layByAge 34 = .ok (.getfield 82, 3) := by decide +kernel
theorem dX1_layByAge_37 : decode cX1_layByAge 37 = .ok (.iload 4, 2) := by decide +kernel
theorem dX1_layByAge_39 : decode cX1_layByAge 39 = .ok (.iaload, 1) := by decide +kernel
theorem dX1_layByAge_40 : decode cX1_layByAge 40 = .ok (.iload_n 3, 1) := by decide +kernel
theorem dX1_layByAge_41 : decode cX1_layByAge 41 = .ok (.if_icmp .ne 13, 3) := by decide +kernel
theorem dX1_layByAge_44 : decode cX1_layByAge 44 = .ok (.aload_n 1, 1) := by decide +kernel
theorem dX1_layByAge_45 : decode cX1_layByAge 45 = .ok (.iload_n 2, 1) := by decide +kernel
theorem dX1_layByAge_46 : decode cX1_layByAge 46 = .ok (.iload 4, 2) := by decide +kernel
theorem dX1_layByAge_48 : decode cX1_layByAge 48 = .ok (.invokevirtual 158, 3) := by decide +kernel
theorem dX1_layByAge_51 : decode cX1_layByAge 51 = .ok (.iinc 2 1, 3) := by decide +kernel
theorem dX1_layByAge_54 : decode cX1_layByAge 54 = .ok (.iinc 4 1, 3) := by decide +kernel
theorem dX1_layByAge_57 : decode cX1_layByAge 57 = .ok (.goto (-36), 3) := by decide +kernel
theorem dX1_layByAge_60 : decode cX1_layByAge 60 = .ok (.iinc 3 (-1), 3) := by decide +kernel
theorem dX1_layByAge_63 : decode cX1_layByAge 63 = .ok (.goto (-49), 3) := by decide +kernel
theorem dX1_layByAge_66 : decode cX1_layByAge 66 = .ok (.return_, 1) := by decide +kernel
def F_X1_layByAge_L21 (n : Nat) (a0 : Nat) (a1 : Nat) (l14_3 : Int32) (K60 : Int32 → aSt → Option aSt) : Nat → Int32 → Int32 → aSt → Option aSt
  | 0, _, _, _ => none
  | fu + 1, l21_2, l21_4, l21S =>
    if (l21S.1 a0 7) ≤ l21_4 then (K60 l21_2 l21S) else
    rfd (l21S.2.2 a0 6) 4 fun k31 =>
    rfd (l21S.2.2 k31 1) 7 fun k34 =>
    grd (inb l21_4 (SH k34).2) <|
    jn (fun (j54_2 : Int32) (j54S : aSt) => (F_X1_layByAge_L21 n a0 a1 l14_3 K60 fu j54_2 (l21_4 + (1 : Int32)) j54S : Option aSt)) fun K54 =>
    if (l21S.1 k34 l21_4.toNatClampNeg) = l14_3 then ((F_X4_layAt n l21S a1 l21_2 l21_4).bind fun S48 =>
    K54 (l21_2 + (1 : Int32)) S48) else
    K54 l21_2 l21S
def F_X1_layByAge_L14 (n : Nat) (a0 : Nat) (a1 : Nat) (K66 : aSt → Option aSt) : Nat → Int32 → Int32 → aSt → Option aSt
  | 0, _, _, _ => none
  | fu + 1, l14_2, l14_3, l14S =>
    if l14_3 < 0 then (K66 l14S) else
    jn (fun (x60_2 : Int32) (x60S : aSt) => (F_X1_layByAge_L14 n a0 a1 K66 fu x60_2 (l14_3 + (-1 : Int32)) x60S : Option aSt)) fun K60 =>
    F_X1_layByAge_L21 n a0 a1 l14_3 K60 n l14_2 (0 : Int32) l14S
def F_X1_layByAge (n : Nat) (S : aSt) (a0 : Nat) (a1 : Nat) : Option aSt :=
(F_X4_begin n S a1 (S.1 a0 7) (0 : Int32)).bind fun S6 =>
jn (fun (x66S : aSt) => (some x66S : Option aSt)) fun K66 =>
F_X1_layByAge_L14 n a0 a1 K66 n (0 : Int32) (9 : Int32) S6
set_option maxHeartbeats 4000000 in
set_option maxRecDepth 100000 in
theorem C_X1_layByAge (G : aG) (l : Launch) (n : Nat) (S : aSt) (a0 : Nat) (a1 : Nat) (Sr : aSt) (ha0 : isT a0 0 = true) (ha1 : isT a1 3 = true) (hf : F_X1_layByAge n S a0 a1 = some Sr) : Ctr G l yX1_layByAge mX1_layByAge (rmM 3) 97 97 S [.ref a0, .ref a1] none Sr := by
  refine Ctr.of (by decide) rfl rfl (Nat.le_of_ble_eq_true rfl) [(0, .ref a0), (1, .ref a1)] rfl ?_
  unfold F_X1_layByAge at hf
  refine Go.aload_n 1 1 rfl dX1_layByAge_0 rfl ?_
  refine Go.aload_n 0 2 rfl dX1_layByAge_1 rfl ?_
  refine Go.getI 5 rfl dX1_layByAge_2 fl_X1_37 rfl (isT_lt ha0) (isT_sh ha0) ?_
  refine Go.iconst (0 : Int32) 6 rfl dX1_layByAge_5 ci_0 ?_
  obtain ⟨S6, eS6, hf⟩ := f_bnd hf
  refine Go.cVv 9 [.int (S.1 a0 7), .int (0 : Int32)] [] (C_X4_begin G l n S a1 (S.1 a0 7) (0 : Int32) S6 ha1 eS6) rfl dX1_layByAge_6 cv_X1_155 ha1 (by decide) (by decide) rfl (Nat.le_of_ble_eq_true rfl) ?_
  refine Go.iconst (0 : Int32) 10 rfl dX1_layByAge_9 ci_0 ?_
  refine Go.istore_n 11 [(2, .int (0 : Int32)), (0, .ref a0), (1, .ref a1)] rfl dX1_layByAge_10 (by decide) rfl ?_
  refine Go.bipush (9 : Int32) 13 rfl dX1_layByAge_11 cb_9 ?_
  refine Go.istore_n 14 [(3, .int (9 : Int32)), (2, .int (0 : Int32)), (0, .ref a0), (1, .ref a1)] rfl dX1_layByAge_13 (by decide) rfl ?_
  obtain ⟨K66, eK66, hf⟩ := f_jn hf
  have J66 : ∀ (x66S : aSt), K66 x66S = some Sr → GoM G l 3 (TmR G none 97 Sr 0 0) mX1_layByAge 66 [] [] x66S := by
    intro x66S hf
    rw [eK66] at hf
    exact Go.vr rfl dX1_layByAge_66 hf
  clear eK66
  have L14 : ∀ (fu : Nat) (l14_2 : Int32) (l14_3 : Int32) (l14S : aSt), F_X1_layByAge_L14 n a0 a1 K66 fu l14_2 l14_3 l14S = some Sr → GoM G l 3 (TmR G none 97 Sr 0 0) mX1_layByAge 14 [(0, .ref a0), (1, .ref a1), (2, .int l14_2), (3, .int l14_3)] [] l14S := by
    intro fu
    induction fu with
    | zero => intro l14_2 l14_3 l14S hf; rw [F_X1_layByAge_L14] at hf; cases hf
    | succ fu ih =>
      intro l14_2 l14_3 l14S hf
      rw [F_X1_layByAge_L14] at hf
      refine Go.iload_n 3 15 rfl dX1_layByAge_14 rfl ?_
      refine Go.if_lt 66 18 rfl dX1_layByAge_15 rfl (fun hc => ?_) (fun hc => ?_)
      · replace hf := f_if hf hc
        exact Go.sub [] [] rfl (J66 l14S hf)
      · replace hf := f_el hf hc
        refine Go.iconst (0 : Int32) 19 rfl dX1_layByAge_18 ci_0 ?_
        refine Go.istore 21 [(4, .int (0 : Int32)), (0, .ref a0), (1, .ref a1), (2, .int l14_2), (3, .int l14_3)] rfl dX1_layByAge_19 (by decide) rfl ?_
        obtain ⟨K60, eK60, hf⟩ := f_jn hf
        have J60 : ∀ (x60_2 : Int32) (x60S : aSt), K60 x60_2 x60S = some Sr → GoM G l 3 (TmR G none 97 Sr 0 0) mX1_layByAge 60 [(0, .ref a0), (1, .ref a1), (2, .int x60_2), (3, .int l14_3)] [] x60S := by
          intro x60_2 x60S hf
          rw [eK60] at hf
          refine Go.inc 3 63 (-1 : Int32) [(3, .int (l14_3 + (-1 : Int32))), (0, .ref a0), (1, .ref a1), (2, .int x60_2)] rfl dX1_layByAge_60 rfl ci_m1 (by decide) rfl ?_
          refine Go.goto 14 dX1_layByAge_63 rfl ?_
          exact Go.sub [1, 2, 3, 0] [(0, .ref a0), (1, .ref a1), (2, .int x60_2), (3, .int (l14_3 + (-1 : Int32)))] rfl (ih x60_2 (l14_3 + (-1 : Int32)) x60S hf)
        clear eK60
        have L21 : ∀ (fu : Nat) (l21_2 : Int32) (l21_4 : Int32) (l21S : aSt), F_X1_layByAge_L21 n a0 a1 l14_3 K60 fu l21_2 l21_4 l21S = some Sr → GoM G l 3 (TmR G none 97 Sr 0 0) mX1_layByAge 21 [(0, .ref a0), (1, .ref a1), (2, .int l21_2), (3, .int l14_3), (4, .int l21_4)] [] l21S := by
          intro fu
          induction fu with
          | zero => intro l21_2 l21_4 l21S hf; rw [F_X1_layByAge_L21] at hf; cases hf
          | succ fu ih =>
            intro l21_2 l21_4 l21S hf
            rw [F_X1_layByAge_L21] at hf
            refine Go.iload 4 23 rfl dX1_layByAge_21 rfl ?_
            refine Go.aload_n 0 24 rfl dX1_layByAge_23 rfl ?_
            refine Go.getI 27 rfl dX1_layByAge_24 fl_X1_37 rfl (isT_lt ha0) (isT_sh ha0) ?_
            refine Go.icmp_ge 60 30 rfl dX1_layByAge_27 rfl (fun hc => ?_) (fun hc => ?_)
            · replace hf := f_if hf hc
              exact Go.sub [0, 1, 2, 3] [(0, .ref a0), (1, .ref a1), (2, .int l21_2), (3, .int l14_3)] rfl (J60 l21_2 l21S hf)
            · replace hf := f_el hf hc
              refine Go.aload_n 0 31 rfl dX1_layByAge_30 rfl ?_
              obtain ⟨k31, qk31, hk31, hf⟩ := f_rfd hf
              refine Go.getR 34 rfl dX1_layByAge_31 fl_X1_33 rfl (isT_lt ha0) (isT_sh ha0) qk31 ?_
              obtain ⟨k34, qk34, hk34, hf⟩ := f_rfd hf
              refine Go.getR 37 rfl dX1_layByAge_34 fl_X1_82 rfl (isT_lt hk31) (isT_sh hk31) qk34 ?_
              refine Go.iload 4 39 rfl dX1_layByAge_37 rfl ?_
              obtain ⟨g39, hf⟩ := f_grd hf
              refine Go.iald 40 rfl dX1_layByAge_39 (isT_lt hk34) (isT_sh hk34) g39 ?_
              refine Go.iload_n 3 41 rfl dX1_layByAge_40 rfl ?_
              obtain ⟨K54, eK54, hf⟩ := f_jn hf
              have J54 : ∀ (j54_2 : Int32) (j54S : aSt), K54 j54_2 j54S = some Sr → GoM G l 3 (TmR G none 97 Sr 0 0) mX1_layByAge 54 [(0, .ref a0), (1, .ref a1), (2, .int j54_2), (3, .int l14_3), (4, .int l21_4)] [] j54S := by
                intro j54_2 j54S hf
                rw [eK54] at hf
                refine Go.inc 4 57 (1 : Int32) [(4, .int (l21_4 + (1 : Int32))), (0, .ref a0), (1, .ref a1), (2, .int j54_2), (3, .int l14_3)] rfl dX1_layByAge_54 rfl ci_1 (by decide) rfl ?_
                refine Go.goto 21 dX1_layByAge_57 rfl ?_
                exact Go.sub [1, 2, 3, 4, 0] [(0, .ref a0), (1, .ref a1), (2, .int j54_2), (3, .int l14_3), (4, .int (l21_4 + (1 : Int32)))] rfl (ih j54_2 (l21_4 + (1 : Int32)) j54S hf)
              clear eK54
              refine Go.icmp_ne 54 44 rfl dX1_layByAge_41 rfl (fun hc => ?_) (fun hc => ?_)
              · replace hf := f_el hf hc
                exact J54 l21_2 l21S hf
              · replace hf := f_if hf hc
                refine Go.aload_n 1 45 rfl dX1_layByAge_44 rfl ?_
                refine Go.iload_n 2 46 rfl dX1_layByAge_45 rfl ?_
                refine Go.iload 4 48 rfl dX1_layByAge_46 rfl ?_
                obtain ⟨S48, eS48, hf⟩ := f_bnd hf
                refine Go.cVv 51 [.int l21_2, .int l21_4] [] (C_X4_layAt G l n l21S a1 l21_2 l21_4 S48 ha1 eS48) rfl dX1_layByAge_48 cv_X1_158 ha1 (by decide) (by decide) rfl (Nat.le_of_ble_eq_true rfl) ?_
                refine Go.inc 2 54 (1 : Int32) [(2, .int (l21_2 + (1 : Int32))), (0, .ref a0), (1, .ref a1), (3, .int l14_3), (4, .int l21_4)] rfl dX1_layByAge_51 rfl ci_1 (by decide) rfl ?_
                exact Go.sub [1, 2, 0, 3, 4] [(0, .ref a0), (1, .ref a1), (2, .int (l21_2 + (1 : Int32))), (3, .int l14_3), (4, .int l21_4)] rfl (J54 (l21_2 + (1 : Int32)) S48 hf)
        exact Go.sub [1, 2, 3, 4, 0] [(0, .ref a0), (1, .ref a1), (2, .int l14_2), (3, .int l14_3), (4, .int (0 : Int32))] rfl (L21 n l14_2 (0 : Int32) l14S hf)
  exact Go.sub [2, 3, 1, 0] [(0, .ref a0), (1, .ref a1), (2, .int (0 : Int32)), (3, .int (9 : Int32))] rfl (L14 n (0 : Int32) (9 : Int32) S6 hf)
theorem dX1_cardByLot_0 : decode cX1_cardByLot 0 = .ok (.aload_n 0, 1) := by decide +kernel
theorem dX1_cardByLot_1 : decode cX1_cardByLot 1 = .ok (.iload_n 1, 1) := by decide +kernel
theorem dX1_cardByLot_2 : decode cX1_cardByLot 2 = .ok (.invokevirtual 101, 3) := by decide +kernel
theorem dX1_cardByLot_5 : decode cX1_cardByLot 5 = .ok (.ifCond .eq 16, 3) := by decide +kernel
theorem dX1_cardByLot_8 : decode cX1_cardByLot 8 = .ok (.aload_n 0, 1) := by decide +kernel
theorem dX1_cardByLot_9 : decode cX1_cardByLot 9 = .ok (.iload_n 1, 1) := by decide +kernel
theorem dX1_cardByLot_10 : decode cX1_cardByLot 10 = .ok (.invokevirtual 161, 3) := by decide +kernel
theorem dX1_cardByLot_13 : decode cX1_cardByLot 13 = .ok (.aload_n 0, 1) := by decide +kernel
theorem dX1_cardByLot_14 : decode cX1_cardByLot 14 = .ok (.invokevirtual 164, 3) := by decide +kernel
theorem dX1_cardByLot_17 : decode cX1_cardByLot 17 = .ok (.iand, 1) := by decide +kernel
theorem dX1_cardByLot_18 : decode cX1_cardByLot 18 = .ok (.goto 4, 3) := by decide +kernel
theorem dX1_cardByLot_21 : decode cX1_cardByLot 21 = .ok (.iconst 0, 1) := by decide +kernel
theorem dX1_cardByLot_22 : decode cX1_cardByLot 22 = .ok (.istore 4, 2) := by decide +kernel
theorem dX1_cardByLot_24 : decode cX1_cardByLot 24 = .ok (.iload 4, 2) := by decide +kernel
theorem dX1_cardByLot_26 : decode cX1_cardByLot 26 = .ok (.invokestatic 140, 3) := by decide +kernel
theorem dX1_cardByLot_29 : decode cX1_cardByLot 29 = .ok (.istore 5, 2) := by decide +kernel
theorem dX1_cardByLot_31 : decode cX1_cardByLot 31 = .ok (.iload 5, 2) := by decide +kernel
theorem dX1_cardByLot_33 : decode cX1_cardByLot 33 = .ok (.ifCond .ne 6, 3) := by decide +kernel
theorem dX1_cardByLot_36 : decode cX1_cardByLot 36 = .ok (.bipush (-9), 2) := by decide +kernel
theorem dX1_cardByLot_38 : decode cX1_cardByLot 38 = .ok (.ireturn, 1) := by decide +kernel
theorem dX1_cardByLot_39 : decode cX1_cardByLot 39 = .ok (.lload_n 2, 1) := by decide +kernel
theorem dX1_cardByLot_40 : decode cX1_cardByLot 40 = .ok (.iload 5, 2) := by decide +kernel
theorem dX1_cardByLot_42 : decode cX1_cardByLot 42 = .ok (.i2l, 1) := by decide +kernel
theorem dX1_cardByLot_43 : decode cX1_cardByLot 43 = .ok (.lrem, 1) := by decide +kernel
theorem dX1_cardByLot_44 : decode cX1_cardByLot 44 = .ok (.lstore 6, 2) := by decide +kernel
theorem dX1_cardByLot_46 : decode cX1_cardByLot 46 = .ok (.iconst 0, 1) := by decide +kernel
theorem dX1_cardByLot_47 : decode cX1_cardByLot 47 = .ok (.istore 8, 2) := by decide +kernel
theorem dX1_cardByLot_49 : decode cX1_cardByLot 49 = .ok (.iload 8, 2) := by decide +kernel
theorem dX1_cardByLot_51 : decode cX1_cardByLot 51 = .ok (.aload_n 0, 1) := by decide +kernel
theorem dX1_cardByLot_52 : decode cX1_cardByLot 52 = .ok (.getfield 37, 3) := by decide +kernel
theorem dX1_cardByLot_55 : decode cX1_cardByLot 55 = .ok (.if_icmp .ge 35, 3) := by decide +kernel
theorem dX1_cardByLot_58 : decode cX1_cardByLot 58 = .ok (.iload 4, 2) := by decide +kernel
theorem dX1_cardByLot_60 : decode cX1_cardByLot 60 = .ok (.iconst 1, 1) := by decide +kernel
theorem dX1_cardByLot_61 : decode cX1_cardByLot 61 = .ok (.iload 8, 2) := by decide +kernel
theorem dX1_cardByLot_63 : decode cX1_cardByLot 63 = .ok (.ishl, 1) := by decide +kernel
theorem dX1_cardByLot_64 : decode cX1_cardByLot 64 = .ok (.iand, 1) := by decide +kernel
theorem dX1_cardByLot_65 : decode cX1_cardByLot 65 = .ok (.ifCond .eq 19, 3) := by decide +kernel
theorem dX1_cardByLot_68 : decode cX1_cardByLot 68 = .ok (.lload 6, 2) := by decide +kernel
theorem dX1_cardByLot_70 : decode cX1_cardByLot 70 = .ok (.lconst 0, 1) := by decide +kernel
theorem dX1_cardByLot_71 : decode cX1_cardByLot 71 = .ok (.lcmp, 1) := by decide +kernel
theorem dX1_cardByLot_72 : decode cX1_cardByLot 72 = .ok (.ifCond .ne 6, 3) := by decide +kernel
theorem dX1_cardByLot_75 : decode cX1_cardByLot 75 = .ok (.iload 8, 2) := by decide +kernel
theorem dX1_cardByLot_77 : decode cX1_cardByLot 77 = .ok (.ireturn, 1) := by decide +kernel
theorem dX1_cardByLot_78 : decode cX1_cardByLot 78 = .ok (.lload 6, 2) := by decide +kernel
theorem dX1_cardByLot_80 : decode cX1_cardByLot 80 = .ok (.lconst 1, 1) := by decide +kernel
theorem dX1_cardByLot_81 : decode cX1_cardByLot 81 = .ok (.lsub, 1) := by decide +kernel
theorem dX1_cardByLot_82 : decode cX1_cardByLot 82 = .ok (.lstore 6, 2) := by decide +kernel
theorem dX1_cardByLot_84 : decode cX1_cardByLot 84 = .ok (.iinc 8 1, 3) := by decide +kernel
theorem dX1_cardByLot_87 : decode cX1_cardByLot 87 = .ok (.goto (-38), 3) := by decide +kernel
theorem dX1_cardByLot_90 : decode cX1_cardByLot 90 = .ok (.bipush (-9), 2) := by decide +kernel
theorem dX1_cardByLot_92 : decode cX1_cardByLot 92 = .ok (.ireturn, 1) := by decide +kernel
def F_X1_cardByLot_L49 (S : aSt) (a0 : Nat) (j22s0 : Int32) (K90 : Option Int32) : Nat → Int64 → Int32 → Option Int32
  | 0, _, _ => none
  | fu + 1, l49_6, l49_8 =>
    if (S.1 a0 7) ≤ l49_8 then (K90) else
    jn (fun (j84_6 : Int64) => (F_X1_cardByLot_L49 S a0 j22s0 K90 fu j84_6 (l49_8 + (1 : Int32)) : Option Int32)) fun K84 =>
    if (j22s0 &&& ((1 : Int32) <<< (l49_8 &&& 31))) = 0 then (K84 l49_6) else
    if (lg_cmp l49_6 (0 : Int64)) = 0 then (some l49_8) else
    nm (l49_6 - (1 : Int64)) fun v82 =>
    K84 v82
def F_X1_cardByLot (n : Nat) (S : aSt) (a0 : Nat) (a1 : Int32) (a2 : Int64) : Option Int32 :=
(F_X1_isFreeQuestion n S a0 a1).bind fun r2 =>
jn (fun (j22s0 : Int32) => ((F_J6_bitCount_0f7a4 n S j22s0).bind fun r26 =>
if r26 = 0 then (some (-9 : Int32)) else
grd (!decide (r26.toInt64 = 0)) <|
nm (a2 - a2 / r26.toInt64 * r26.toInt64) fun v44 =>
jn ((some (-9 : Int32) : Option Int32)) fun K90 =>
F_X1_cardByLot_L49 S a0 j22s0 K90 n v44 (0 : Int32) : Option Int32)) fun K22 =>
if r2 = 0 then (K22 (0 : Int32)) else
(F_X1_fittingCards n S a0 a1).bind fun r10 =>
(F_X1_freeCards n S a0).bind fun r14 =>
K22 (r10 &&& r14)
set_option maxHeartbeats 4000000 in
set_option maxRecDepth 100000 in
theorem C_X1_cardByLot (G : aG) (l : Launch) (n : Nat) (S : aSt) (a0 : Nat) (a1 : Int32) (a2 : Int64) (r : Int32) (ha0 : isT a0 0 = true) (hf : F_X1_cardByLot n S a0 a1 a2 = some r) : Ctr G l yX1_cardByLot mX1_cardByLot (rmM 5) 97 97 S [.ref a0, .int a1, .long a2] (some (.int r)) S := by
  refine Ctr.of (by decide) rfl rfl (Nat.le_of_ble_eq_true rfl) [(0, .ref a0), (1, .int a1), (2, .long a2)] rfl ?_
  unfold F_X1_cardByLot at hf
  refine Go.aload_n 0 1 rfl dX1_cardByLot_0 rfl ?_
  refine Go.iload_n 1 2 rfl dX1_cardByLot_1 rfl ?_
  obtain ⟨r2, er2, hf⟩ := f_bnd hf
  refine Go.cV 5 [.int a1] [] (C_X1_isFreeQuestion G l n S a0 a1 r2 ha0 er2) rfl dX1_cardByLot_2 cv_X1_101 ha0 (by decide) (by decide) rfl (Nat.le_of_ble_eq_true rfl) ?_
  obtain ⟨K22, eK22, hf⟩ := f_jn hf
  have J22 : ∀ (j22s0 : Int32), K22 j22s0 = some r → GoM G l 5 (TmR G (some (.int r)) 97 S 0 0) mX1_cardByLot 22 [(0, .ref a0), (2, .long a2)] [.int j22s0] S := by
    intro j22s0 hf
    rw [eK22] at hf
    refine Go.istore 24 [(4, .int j22s0), (0, .ref a0), (2, .long a2)] rfl dX1_cardByLot_22 (by decide) rfl ?_
    refine Go.iload 0 26 rfl dX1_cardByLot_24 rfl ?_
    obtain ⟨r26, er26, hf⟩ := f_bnd hf
    refine Go.cS 29 [.int j22s0] [] (C_J6_bitCount_0f7a4 G l n S j22s0 r26  er26) rfl dX1_cardByLot_26 cx_X1_140 (by decide) (by decide) rfl (Nat.le_of_ble_eq_true rfl) ?_
    refine Go.istore 31 [(5, .int r26), (4, .int j22s0), (0, .ref a0), (2, .long a2)] rfl dX1_cardByLot_29 (by decide) rfl ?_
    refine Go.iload 0 33 rfl dX1_cardByLot_31 rfl ?_
    refine Go.if_ne 39 36 rfl dX1_cardByLot_33 rfl (fun hc => ?_) (fun hc => ?_)
    · replace hf := f_el hf hc
      refine Go.lload_n 3 40 rfl dX1_cardByLot_39 rfl ?_
      refine Go.iload 0 42 rfl dX1_cardByLot_40 rfl ?_
      refine Go.i2l 43 rfl dX1_cardByLot_42 ?_
      obtain ⟨g43, hf⟩ := f_grd hf
      refine Go.lrem 44 rfl dX1_cardByLot_43 (by simpa using g43) ?_
      obtain ⟨v44, ev44, hf⟩ := f_nm hf
      refine Go.topl v44 ev44 ?_
      refine Go.lstore 46 [(6, .long v44), (5, .int r26), (4, .int j22s0), (0, .ref a0), (2, .long a2)] rfl dX1_cardByLot_44 (by decide) rfl ?_
      refine Go.iconst (0 : Int32) 47 rfl dX1_cardByLot_46 ci_0 ?_
      refine Go.istore 49 [(8, .int (0 : Int32)), (6, .long v44), (5, .int r26), (4, .int j22s0), (0, .ref a0), (2, .long a2)] rfl dX1_cardByLot_47 (by decide) rfl ?_
      obtain ⟨K90, eK90, hf⟩ := f_jn hf
      have J90 : K90 = some r → GoM G l 5 (TmR G (some (.int r)) 97 S 0 0) mX1_cardByLot 90 [] [] S := by
        intro hf
        rw [eK90] at hf
        refine Go.bipush (-9 : Int32) 92 rfl dX1_cardByLot_90 cb_m9 ?_
        exact Go.ir rfl dX1_cardByLot_92 hf
      clear eK90
      have L49 : ∀ (fu : Nat) (l49_6 : Int64) (l49_8 : Int32), F_X1_cardByLot_L49 S a0 j22s0 K90 fu l49_6 l49_8 = some r → GoM G l 5 (TmR G (some (.int r)) 97 S 0 0) mX1_cardByLot 49 [(0, .ref a0), (4, .int j22s0), (6, .long l49_6), (8, .int l49_8)] [] S := by
        intro fu
        induction fu with
        | zero => intro l49_6 l49_8 hf; rw [F_X1_cardByLot_L49] at hf; cases hf
        | succ fu ih =>
          intro l49_6 l49_8 hf
          rw [F_X1_cardByLot_L49] at hf
          refine Go.iload 3 51 rfl dX1_cardByLot_49 rfl ?_
          refine Go.aload_n 0 52 rfl dX1_cardByLot_51 rfl ?_
          refine Go.getI 55 rfl dX1_cardByLot_52 fl_X1_37 rfl (isT_lt ha0) (isT_sh ha0) ?_
          refine Go.icmp_ge 90 58 rfl dX1_cardByLot_55 rfl (fun hc => ?_) (fun hc => ?_)
          · replace hf := f_if hf hc
            exact Go.sub [] [] rfl (J90 hf)
          · replace hf := f_el hf hc
            refine Go.iload 1 60 rfl dX1_cardByLot_58 rfl ?_
            refine Go.iconst (1 : Int32) 61 rfl dX1_cardByLot_60 ci_1 ?_
            refine Go.iload 3 63 rfl dX1_cardByLot_61 rfl ?_
            refine Go.ishl 64 rfl dX1_cardByLot_63 ?_
            refine Go.iand 65 rfl dX1_cardByLot_64 ?_
            obtain ⟨K84, eK84, hf⟩ := f_jn hf
            have J84 : ∀ (j84_6 : Int64), K84 j84_6 = some r → GoM G l 5 (TmR G (some (.int r)) 97 S 0 0) mX1_cardByLot 84 [(0, .ref a0), (4, .int j22s0), (6, .long j84_6), (8, .int l49_8)] [] S := by
              intro j84_6 hf
              rw [eK84] at hf
              refine Go.inc 3 87 (1 : Int32) [(8, .int (l49_8 + (1 : Int32))), (0, .ref a0), (4, .int j22s0), (6, .long j84_6)] rfl dX1_cardByLot_84 rfl ci_1 (by decide) rfl ?_
              refine Go.goto 49 dX1_cardByLot_87 rfl ?_
              exact Go.sub [1, 2, 3, 0] [(0, .ref a0), (4, .int j22s0), (6, .long j84_6), (8, .int (l49_8 + (1 : Int32)))] rfl (ih j84_6 (l49_8 + (1 : Int32)) hf)
            clear eK84
            refine Go.if_eq 84 68 rfl dX1_cardByLot_65 rfl (fun hc => ?_) (fun hc => ?_)
            · replace hf := f_if hf hc
              exact J84 l49_6 hf
            · replace hf := f_el hf hc
              refine Go.lload 2 70 rfl dX1_cardByLot_68 rfl ?_
              refine Go.lconst (0 : Int64) 71 rfl dX1_cardByLot_70 cl_0 ?_
              refine Go.lcmp 72 rfl dX1_cardByLot_71 ?_
              refine Go.if_ne 78 75 rfl dX1_cardByLot_72 rfl (fun hc => ?_) (fun hc => ?_)
              · replace hf := f_el hf hc
                refine Go.lload 2 80 rfl dX1_cardByLot_78 rfl ?_
                refine Go.lconst (1 : Int64) 81 rfl dX1_cardByLot_80 cl_1 ?_
                refine Go.lsub 82 rfl dX1_cardByLot_81 ?_
                obtain ⟨v82, ev82, hf⟩ := f_nm hf
                refine Go.topl v82 ev82 ?_
                refine Go.lstore 84 [(6, .long v82), (0, .ref a0), (4, .int j22s0), (8, .int l49_8)] rfl dX1_cardByLot_82 (by decide) rfl ?_
                exact Go.sub [1, 2, 0, 3] [(0, .ref a0), (4, .int j22s0), (6, .long v82), (8, .int l49_8)] rfl (J84 v82 hf)
              · replace hf := f_if hf hc
                refine Go.iload 3 77 rfl dX1_cardByLot_75 rfl ?_
                exact Go.ir rfl dX1_cardByLot_77 hf
      exact Go.sub [4, 3, 1, 0] [(0, .ref a0), (4, .int j22s0), (6, .long v44), (8, .int (0 : Int32))] rfl (L49 n v44 (0 : Int32) hf)
    · replace hf := f_if hf hc
      refine Go.bipush (-9 : Int32) 38 rfl dX1_cardByLot_36 cb_m9 ?_
      exact Go.ir rfl dX1_cardByLot_38 hf
  clear eK22
  refine Go.if_eq 21 8 rfl dX1_cardByLot_5 rfl (fun hc => ?_) (fun hc => ?_)
  · replace hf := f_if hf hc
    refine Go.iconst (0 : Int32) 22 rfl dX1_cardByLot_21 ci_0 ?_
    exact Go.sub [0, 2] [(0, .ref a0), (2, .long a2)] rfl (J22 (0 : Int32) hf)
  · replace hf := f_el hf hc
    refine Go.aload_n 0 9 rfl dX1_cardByLot_8 rfl ?_
    refine Go.iload_n 1 10 rfl dX1_cardByLot_9 rfl ?_
    obtain ⟨r10, er10, hf⟩ := f_bnd hf
    refine Go.cV 13 [.int a1] [] (C_X1_fittingCards G l n S a0 a1 r10 ha0 er10) rfl dX1_cardByLot_10 cv_X1_161 ha0 (by decide) (by decide) rfl (Nat.le_of_ble_eq_true rfl) ?_
    refine Go.aload_n 0 14 rfl dX1_cardByLot_13 rfl ?_
    obtain ⟨r14, er14, hf⟩ := f_bnd hf
    refine Go.cV 17 [] [.int r10] (C_X1_freeCards G l n S a0 r14 ha0 er14) rfl dX1_cardByLot_14 cv_X1_164 ha0 (by decide) (by decide) rfl (Nat.le_of_ble_eq_true rfl) ?_
    refine Go.iand 18 rfl dX1_cardByLot_17 ?_
    refine Go.goto 22 dX1_cardByLot_18 rfl ?_
    exact Go.sub [0, 2] [(0, .ref a0), (2, .long a2)] rfl (J22 (r10 &&& r14) hf)
theorem dX1_foldInto_0 : decode cX1_foldInto 0 = .ok (.lload_n 1, 1) := by decide +kernel
theorem dX1_foldInto_1 : decode cX1_foldInto 1 = .ok (.lstore_n 3, 1) := by decide +kernel
theorem dX1_foldInto_2 : decode cX1_foldInto 2 = .ok (.iconst 0, 1) := by decide +kernel
theorem dX1_foldInto_3 : decode cX1_foldInto 3 = .ok (.istore 5, 2) := by decide +kernel
theorem dX1_foldInto_5 : decode cX1_foldInto 5 = .ok (.iload 5, 2) := by decide +kernel
theorem dX1_foldInto_7 : decode cX1_foldInto 7 = .ok (.aload_n 0, 1) := by decide +kernel
theorem dX1_foldInto_8 : decode cX1_foldInto 8 = .ok (.getfield 37, 3) := by decide +kernel
theorem dX1_foldInto_11 : decode cX1_foldInto 11 = .ok (.if_icmp .ge 41, 3) := by decide +kernel
theorem dX1_foldInto_14 : decode cX1_foldInto 14 = .ok (.iconst 0, 1) := by decide +kernel
theorem dX1_foldInto_15 : decode cX1_foldInto 15 = .ok (.istore 6, 2) := by decide +kernel
theorem dX1_foldInto_17 : decode cX1_foldInto 17 = .ok (.iload 6, 2) := by decide +kernel
theorem dX1_foldInto_19 : decode cX1_foldInto 19 = .ok (.bipush 6, 2) := by decide +kernel
theorem dX1_foldInto_21 : decode cX1_foldInto 21 = .ok (.if_icmp .ge 25, 3) := by decide +kernel
theorem dX1_foldInto_24 : decode cX1_foldInto 24 = .ok (.ldc2_w 167, 3) := by decide +kernel
theorem dX1_foldInto_27 : decode cX1_foldInto 27 = .ok (.lload_n 3, 1) := by decide +kernel
theorem dX1_foldInto_28 : decode cX1_foldInto 28 = .ok (.lmul, 1) := by decide +kernel
theorem dX1_foldInto_29 : decode cX1_foldInto 29 = .ok (.aload_n 0, 1) := by decide +kernel
theorem dX1_foldInto_30 : decode cX1_foldInto 30 = .ok (.iload 5, 2) := by decide +kernel
theorem dX1_foldInto_32 : decode cX1_foldInto 32 = .ok (.iload 6, 2) := by decide +kernel
theorem dX1_foldInto_34 : decode cX1_foldInto 34 = .ok (.invokevirtual 169, 3) := by decide +kernel
theorem dX1_foldInto_37 : decode cX1_foldInto 37 = .ok (.i2l, 1) := by decide +kernel
theorem dX1_foldInto_38 : decode cX1_foldInto 38 = .ok (.ladd, 1) := by decide +kernel
theorem dX1_foldInto_39 : decode cX1_foldInto 39 = .ok (.lstore_n 3, 1) := by decide +kernel
theorem dX1_foldInto_40 : decode cX1_foldInto 40 = .ok (.iinc 6 1, 3) := by decide +kernel
theorem dX1_foldInto_43 : decode cX1_foldInto 43 = .ok (.goto (-26), 3) := by decide +kernel
theorem dX1_foldInto_46 : decode cX1_foldInto 46 = .ok (.iinc 5 1, 3) := by decide +kernel
theorem dX1_foldInto_49 : decode cX1_foldInto 49 = .ok (.goto (-44), 3) := by decide +kernel
theorem dX1_foldInto_52 : decode cX1_foldInto 52 = .ok (.iconst 0, 1) := by decide +kernel
theorem dX1_foldInto_53 : decode cX1_foldInto 53 = .ok (.istore 5, 2) := by decide +kernel
theorem dX1_foldInto_55 : decode cX1_foldInto 55 = .ok (.iload 5, 2) := by decide +kernel
theorem dX1_foldInto_57 : decode cX1_foldInto 57 = .ok (.aload_n 0, 1) := by decide +kernel
theorem dX1_foldInto_58 : decode cX1_foldInto 58 = .ok (.getfield 41, 3) := by decide +kernel
theorem dX1_foldInto_61 : decode cX1_foldInto 61 = .ok (.if_icmp .ge 41, 3) := by decide +kernel
theorem dX1_foldInto_64 : decode cX1_foldInto 64 = .ok (.iconst 0, 1) := by decide +kernel
theorem dX1_foldInto_65 : decode cX1_foldInto 65 = .ok (.istore 6, 2) := by decide +kernel
theorem dX1_foldInto_67 : decode cX1_foldInto 67 = .ok (.iload 6, 2) := by decide +kernel
theorem dX1_foldInto_69 : decode cX1_foldInto 69 = .ok (.bipush 6, 2) := by decide +kernel
theorem dX1_foldInto_71 : decode cX1_foldInto 71 = .ok (.if_icmp .ge 25, 3) := by decide +kernel
theorem dX1_foldInto_74 : decode cX1_foldInto 74 = .ok (.ldc2_w 167, 3) := by decide +kernel
theorem dX1_foldInto_77 : decode cX1_foldInto 77 = .ok (.lload_n 3, 1) := by decide +kernel
theorem dX1_foldInto_78 : decode cX1_foldInto 78 = .ok (.lmul, 1) := by decide +kernel
theorem dX1_foldInto_79 : decode cX1_foldInto 79 = .ok (.aload_n 0, 1) := by decide +kernel
theorem dX1_foldInto_80 : decode cX1_foldInto 80 = .ok (.iload 5, 2) := by decide +kernel
theorem dX1_foldInto_82 : decode cX1_foldInto 82 = .ok (.iload 6, 2) := by decide +kernel
theorem dX1_foldInto_84 : decode cX1_foldInto 84 = .ok (.invokevirtual 172, 3) := by decide +kernel
theorem dX1_foldInto_87 : decode cX1_foldInto 87 = .ok (.i2l, 1) := by decide +kernel
theorem dX1_foldInto_88 : decode cX1_foldInto 88 = .ok (.ladd, 1) := by decide +kernel
theorem dX1_foldInto_89 : decode cX1_foldInto 89 = .ok (.lstore_n 3, 1) := by decide +kernel
theorem dX1_foldInto_90 : decode cX1_foldInto 90 = .ok (.iinc 6 1, 3) := by decide +kernel
theorem dX1_foldInto_93 : decode cX1_foldInto 93 = .ok (.goto (-26), 3) := by decide +kernel
theorem dX1_foldInto_96 : decode cX1_foldInto 96 = .ok (.iinc 5 1, 3) := by decide +kernel
theorem dX1_foldInto_99 : decode cX1_foldInto 99 = .ok (.goto (-44), 3) := by decide +kernel
theorem dX1_foldInto_102 : decode cX1_foldInto 102 = .ok (.iconst 0, 1) := by decide +kernel
theorem dX1_foldInto_103 : decode cX1_foldInto 103 = .ok (.istore 5, 2) := by decide +kernel
theorem dX1_foldInto_105 : decode cX1_foldInto 105 = .ok (.iload 5, 2) := by decide +kernel
theorem dX1_foldInto_107 : decode cX1_foldInto 107 = .ok (.aload_n 0, 1) := by decide +kernel
theorem dX1_foldInto_108 : decode cX1_foldInto 108 = .ok (.getfield 33, 3) := by decide +kernel
theorem dX1_foldInto_111 : decode cX1_foldInto 111 = .ok (.getfield 175, 3) := by decide +kernel
theorem dX1_foldInto_114 : decode cX1_foldInto 114 = .ok (.if_icmp .ge 27, 3) := by decide +kernel
theorem dX1_foldInto_117 : decode cX1_foldInto 117 = .ok (.ldc2_w 167, 3) := by decide +kernel
theorem dX1_foldInto_120 : decode cX1_foldInto 120 = .ok (.lload_n 3, 1) := by decide +kernel
theorem dX1_foldInto_121 : decode cX1_foldInto 121 = .ok (.lmul, 1) := by decide +kernel
theorem dX1_foldInto_122 : decode cX1_foldInto 122 = .ok (.aload_n 0, 1) := by decide +kernel
theorem dX1_foldInto_123 : decode cX1_foldInto 123 = .ok (.getfield 33, 3) := by decide +kernel
theorem dX1_foldInto_126 : decode cX1_foldInto 126 = .ok (.getfield 178, 3) := by decide +kernel
theorem dX1_foldInto_129 : decode cX1_foldInto 129 = .ok (.iload 5, 2) := by decide +kernel
theorem dX1_foldInto_131 : decode cX1_foldInto 131 = .ok (.iaload, 1) := by decide +kernel
theorem dX1_foldInto_132 : decode cX1_foldInto 132 = .ok (.i2l, 1) := by decide +kernel
theorem dX1_foldInto_133 : decode cX1_foldInto 133 = .ok (.ladd, 1) := by decide +kernel
theorem dX1_foldInto_134 : decode cX1_foldInto 134 = .ok (.lstore_n 3, 1) := by decide +kernel
theorem dX1_foldInto_135 : decode cX1_foldInto 135 = .ok (.iinc 5 1, 3) := by decide +kernel
theorem dX1_foldInto_138 : decode cX1_foldInto 138 = .ok (.goto (-33), 3) := by decide +kernel
theorem dX1_foldInto_141 : decode cX1_foldInto 141 = .ok (.lload_n 3, 1) := by decide +kernel
theorem dX1_foldInto_142 : decode cX1_foldInto 142 = .ok (.lreturn, 1) := by decide +kernel
def F_X1_foldInto_L105 (S : aSt) (a0 : Nat) (K141 : Int64 → Option Int64) : Nat → Int64 → Int32 → Option Int64
  | 0, _, _ => none
  | fu + 1, l105_3, l105_5 =>
    rfd (S.2.2 a0 6) 4 fun k108 =>
    if (S.1 k108 6) ≤ l105_5 then (K141 l105_3) else
    rfd (S.2.2 k108 4) 7 fun k126 =>
    grd (inb l105_5 (SH k126).2) <|
    nm (((31 : Int64) * l105_3) + (S.1 k126 l105_5.toNatClampNeg).toInt64) fun v134 =>
    F_X1_foldInto_L105 S a0 K141 fu v134 (l105_5 + (1 : Int32))
def F_X1_foldInto_L67 (n : Nat) (S : aSt) (a0 : Nat) (l55_5 : Int32) (K96 : Int64 → Option Int64) : Nat → Int64 → Int32 → Option Int64
  | 0, _, _ => none
  | fu + 1, l67_3, l67_6 =>
    if (6 : Int32) ≤ l67_6 then (K96 l67_3) else
    (F_X1_questionFact n S a0 l55_5 l67_6).bind fun r84 =>
    nm (((31 : Int64) * l67_3) + r84.toInt64) fun v89 =>
    F_X1_foldInto_L67 n S a0 l55_5 K96 fu v89 (l67_6 + (1 : Int32))
def F_X1_foldInto_L55 (n : Nat) (S : aSt) (a0 : Nat) (K102 : Int64 → Option Int64) : Nat → Int64 → Int32 → Option Int64
  | 0, _, _ => none
  | fu + 1, l55_3, l55_5 =>
    if (S.1 a0 8) ≤ l55_5 then (K102 l55_3) else
    jn (fun (x96_3 : Int64) => (F_X1_foldInto_L55 n S a0 K102 fu x96_3 (l55_5 + (1 : Int32)) : Option Int64)) fun K96 =>
    F_X1_foldInto_L67 n S a0 l55_5 K96 n l55_3 (0 : Int32)
def F_X1_foldInto_L17 (n : Nat) (S : aSt) (a0 : Nat) (l5_5 : Int32) (K46 : Int64 → Option Int64) : Nat → Int64 → Int32 → Option Int64
  | 0, _, _ => none
  | fu + 1, l17_3, l17_6 =>
    if (6 : Int32) ≤ l17_6 then (K46 l17_3) else
    (F_X1_cardFact n S a0 l5_5 l17_6).bind fun r34 =>
    nm (((31 : Int64) * l17_3) + r34.toInt64) fun v39 =>
    F_X1_foldInto_L17 n S a0 l5_5 K46 fu v39 (l17_6 + (1 : Int32))
def F_X1_foldInto_L5 (n : Nat) (S : aSt) (a0 : Nat) (K52 : Int64 → Option Int64) : Nat → Int64 → Int32 → Option Int64
  | 0, _, _ => none
  | fu + 1, l5_3, l5_5 =>
    if (S.1 a0 7) ≤ l5_5 then (K52 l5_3) else
    jn (fun (x46_3 : Int64) => (F_X1_foldInto_L5 n S a0 K52 fu x46_3 (l5_5 + (1 : Int32)) : Option Int64)) fun K46 =>
    F_X1_foldInto_L17 n S a0 l5_5 K46 n l5_3 (0 : Int32)
def F_X1_foldInto (n : Nat) (S : aSt) (a0 : Nat) (a1 : Int64) : Option Int64 :=
jn (fun (x52_3 : Int64) => (jn (fun (x102_3 : Int64) => (jn (fun (x141_3 : Int64) => (some x141_3 : Option Int64)) fun K141 =>
F_X1_foldInto_L105 S a0 K141 n x102_3 (0 : Int32) : Option Int64)) fun K102 =>
F_X1_foldInto_L55 n S a0 K102 n x52_3 (0 : Int32) : Option Int64)) fun K52 =>
F_X1_foldInto_L5 n S a0 K52 n a1 (0 : Int32)
set_option maxHeartbeats 4000000 in
set_option maxRecDepth 100000 in
theorem C_X1_foldInto (G : aG) (l : Launch) (n : Nat) (S : aSt) (a0 : Nat) (a1 : Int64) (r : Int64) (ha0 : isT a0 0 = true) (hf : F_X1_foldInto n S a0 a1 = some r) : Ctr G l yX1_foldInto mX1_foldInto (rmM 4) 97 97 S [.ref a0, .long a1] (some (.long r)) S := by
  refine Ctr.of (by decide) rfl rfl (Nat.le_of_ble_eq_true rfl) [(0, .ref a0), (1, .long a1)] rfl ?_
  unfold F_X1_foldInto at hf
  refine Go.lload_n 1 1 rfl dX1_foldInto_0 rfl ?_
  refine Go.lstore_n 2 [(3, .long a1), (0, .ref a0), (1, .long a1)] rfl dX1_foldInto_1 (by decide) rfl ?_
  refine Go.iconst (0 : Int32) 3 rfl dX1_foldInto_2 ci_0 ?_
  refine Go.istore 5 [(5, .int (0 : Int32)), (3, .long a1), (0, .ref a0), (1, .long a1)] rfl dX1_foldInto_3 (by decide) rfl ?_
  obtain ⟨K52, eK52, hf⟩ := f_jn hf
  have J52 : ∀ (x52_3 : Int64), K52 x52_3 = some r → GoM G l 4 (TmR G (some (.long r)) 97 S 0 0) mX1_foldInto 52 [(0, .ref a0), (3, .long x52_3)] [] S := by
    intro x52_3 hf
    rw [eK52] at hf
    refine Go.iconst (0 : Int32) 53 rfl dX1_foldInto_52 ci_0 ?_
    refine Go.istore 55 [(5, .int (0 : Int32)), (0, .ref a0), (3, .long x52_3)] rfl dX1_foldInto_53 (by decide) rfl ?_
    obtain ⟨K102, eK102, hf⟩ := f_jn hf
    have J102 : ∀ (x102_3 : Int64), K102 x102_3 = some r → GoM G l 4 (TmR G (some (.long r)) 97 S 0 0) mX1_foldInto 102 [(0, .ref a0), (3, .long x102_3)] [] S := by
      intro x102_3 hf
      rw [eK102] at hf
      refine Go.iconst (0 : Int32) 103 rfl dX1_foldInto_102 ci_0 ?_
      refine Go.istore 105 [(5, .int (0 : Int32)), (0, .ref a0), (3, .long x102_3)] rfl dX1_foldInto_103 (by decide) rfl ?_
      obtain ⟨K141, eK141, hf⟩ := f_jn hf
      have J141 : ∀ (x141_3 : Int64), K141 x141_3 = some r → GoM G l 4 (TmR G (some (.long r)) 97 S 0 0) mX1_foldInto 141 [(3, .long x141_3)] [] S := by
        intro x141_3 hf
        rw [eK141] at hf
        refine Go.lload_n 0 142 rfl dX1_foldInto_141 rfl ?_
        exact Go.lr rfl dX1_foldInto_142 hf
      clear eK141
      have L105 : ∀ (fu : Nat) (l105_3 : Int64) (l105_5 : Int32), F_X1_foldInto_L105 S a0 K141 fu l105_3 l105_5 = some r → GoM G l 4 (TmR G (some (.long r)) 97 S 0 0) mX1_foldInto 105 [(0, .ref a0), (3, .long l105_3), (5, .int l105_5)] [] S := by
        intro fu
        induction fu with
        | zero => intro l105_3 l105_5 hf; rw [F_X1_foldInto_L105] at hf; cases hf
        | succ fu ih =>
          intro l105_3 l105_5 hf
          rw [F_X1_foldInto_L105] at hf
          refine Go.iload 2 107 rfl dX1_foldInto_105 rfl ?_
          refine Go.aload_n 0 108 rfl dX1_foldInto_107 rfl ?_
          obtain ⟨k108, qk108, hk108, hf⟩ := f_rfd hf
          refine Go.getR 111 rfl dX1_foldInto_108 fl_X1_33 rfl (isT_lt ha0) (isT_sh ha0) qk108 ?_
          refine Go.getI 114 rfl dX1_foldInto_111 fl_X1_175 rfl (isT_lt hk108) (isT_sh hk108) ?_
          refine Go.icmp_ge 141 117 rfl dX1_foldInto_114 rfl (fun hc => ?_) (fun hc => ?_)
          · replace hf := f_if hf hc
            exact Go.sub [1] [(3, .long l105_3)] rfl (J141 l105_3 hf)
          · replace hf := f_el hf hc
            refine Go.ldc2 (31 : Int64) 120 rfl dX1_foldInto_117 (am_mem 824 (by decide +kernel) rfl) ?_
            refine Go.lload_n 1 121 rfl dX1_foldInto_120 rfl ?_
            refine Go.lmul 122 rfl dX1_foldInto_121 ?_
            refine Go.aload_n 0 123 rfl dX1_foldInto_122 rfl ?_
            refine Go.getR 126 rfl dX1_foldInto_123 fl_X1_33 rfl (isT_lt ha0) (isT_sh ha0) qk108 ?_
            obtain ⟨k126, qk126, hk126, hf⟩ := f_rfd hf
            refine Go.getR 129 rfl dX1_foldInto_126 fl_X1_178 rfl (isT_lt hk108) (isT_sh hk108) qk126 ?_
            refine Go.iload 2 131 rfl dX1_foldInto_129 rfl ?_
            obtain ⟨g131, hf⟩ := f_grd hf
            refine Go.iald 132 rfl dX1_foldInto_131 (isT_lt hk126) (isT_sh hk126) g131 ?_
            refine Go.i2l 133 rfl dX1_foldInto_132 ?_
            refine Go.ladd 134 rfl dX1_foldInto_133 ?_
            obtain ⟨v134, ev134, hf⟩ := f_nm hf
            refine Go.topl v134 ev134 ?_
            refine Go.lstore_n 135 [(3, .long v134), (0, .ref a0), (5, .int l105_5)] rfl dX1_foldInto_134 (by decide) rfl ?_
            refine Go.inc 2 138 (1 : Int32) [(5, .int (l105_5 + (1 : Int32))), (3, .long v134), (0, .ref a0)] rfl dX1_foldInto_135 rfl ci_1 (by decide) rfl ?_
            refine Go.goto 105 dX1_foldInto_138 rfl ?_
            exact Go.sub [2, 1, 0] [(0, .ref a0), (3, .long v134), (5, .int (l105_5 + (1 : Int32)))] rfl (ih v134 (l105_5 + (1 : Int32)) hf)
      exact Go.sub [1, 2, 0] [(0, .ref a0), (3, .long x102_3), (5, .int (0 : Int32))] rfl (L105 n x102_3 (0 : Int32) hf)
    clear eK102
    have L55 : ∀ (fu : Nat) (l55_3 : Int64) (l55_5 : Int32), F_X1_foldInto_L55 n S a0 K102 fu l55_3 l55_5 = some r → GoM G l 4 (TmR G (some (.long r)) 97 S 0 0) mX1_foldInto 55 [(0, .ref a0), (3, .long l55_3), (5, .int l55_5)] [] S := by
      intro fu
      induction fu with
      | zero => intro l55_3 l55_5 hf; rw [F_X1_foldInto_L55] at hf; cases hf
      | succ fu ih =>
        intro l55_3 l55_5 hf
        rw [F_X1_foldInto_L55] at hf
        refine Go.iload 2 57 rfl dX1_foldInto_55 rfl ?_
        refine Go.aload_n 0 58 rfl dX1_foldInto_57 rfl ?_
        refine Go.getI 61 rfl dX1_foldInto_58 fl_X1_41 rfl (isT_lt ha0) (isT_sh ha0) ?_
        refine Go.icmp_ge 102 64 rfl dX1_foldInto_61 rfl (fun hc => ?_) (fun hc => ?_)
        · replace hf := f_if hf hc
          exact Go.sub [0, 1] [(0, .ref a0), (3, .long l55_3)] rfl (J102 l55_3 hf)
        · replace hf := f_el hf hc
          refine Go.iconst (0 : Int32) 65 rfl dX1_foldInto_64 ci_0 ?_
          refine Go.istore 67 [(6, .int (0 : Int32)), (0, .ref a0), (3, .long l55_3), (5, .int l55_5)] rfl dX1_foldInto_65 (by decide) rfl ?_
          obtain ⟨K96, eK96, hf⟩ := f_jn hf
          have J96 : ∀ (x96_3 : Int64), K96 x96_3 = some r → GoM G l 4 (TmR G (some (.long r)) 97 S 0 0) mX1_foldInto 96 [(0, .ref a0), (3, .long x96_3), (5, .int l55_5)] [] S := by
            intro x96_3 hf
            rw [eK96] at hf
            refine Go.inc 2 99 (1 : Int32) [(5, .int (l55_5 + (1 : Int32))), (0, .ref a0), (3, .long x96_3)] rfl dX1_foldInto_96 rfl ci_1 (by decide) rfl ?_
            refine Go.goto 55 dX1_foldInto_99 rfl ?_
            exact Go.sub [1, 2, 0] [(0, .ref a0), (3, .long x96_3), (5, .int (l55_5 + (1 : Int32)))] rfl (ih x96_3 (l55_5 + (1 : Int32)) hf)
          clear eK96
          have L67 : ∀ (fu : Nat) (l67_3 : Int64) (l67_6 : Int32), F_X1_foldInto_L67 n S a0 l55_5 K96 fu l67_3 l67_6 = some r → GoM G l 4 (TmR G (some (.long r)) 97 S 0 0) mX1_foldInto 67 [(0, .ref a0), (3, .long l67_3), (5, .int l55_5), (6, .int l67_6)] [] S := by
            intro fu
            induction fu with
            | zero => intro l67_3 l67_6 hf; rw [F_X1_foldInto_L67] at hf; cases hf
            | succ fu ih =>
              intro l67_3 l67_6 hf
              rw [F_X1_foldInto_L67] at hf
              refine Go.iload 3 69 rfl dX1_foldInto_67 rfl ?_
              refine Go.bipush (6 : Int32) 71 rfl dX1_foldInto_69 cb_6 ?_
              refine Go.icmp_ge 96 74 rfl dX1_foldInto_71 rfl (fun hc => ?_) (fun hc => ?_)
              · replace hf := f_if hf hc
                exact Go.sub [0, 1, 2] [(0, .ref a0), (3, .long l67_3), (5, .int l55_5)] rfl (J96 l67_3 hf)
              · replace hf := f_el hf hc
                refine Go.ldc2 (31 : Int64) 77 rfl dX1_foldInto_74 (am_mem 824 (by decide +kernel) rfl) ?_
                refine Go.lload_n 1 78 rfl dX1_foldInto_77 rfl ?_
                refine Go.lmul 79 rfl dX1_foldInto_78 ?_
                refine Go.aload_n 0 80 rfl dX1_foldInto_79 rfl ?_
                refine Go.iload 2 82 rfl dX1_foldInto_80 rfl ?_
                refine Go.iload 3 84 rfl dX1_foldInto_82 rfl ?_
                obtain ⟨r84, er84, hf⟩ := f_bnd hf
                refine Go.cV 87 [.int l55_5, .int l67_6] [.long ((31 : Int64) * l67_3)] (C_X1_questionFact G l n S a0 l55_5 l67_6 r84 ha0 er84) rfl dX1_foldInto_84 cv_X1_172 ha0 (by decide) (by decide) rfl (Nat.le_of_ble_eq_true rfl) ?_
                refine Go.i2l 88 rfl dX1_foldInto_87 ?_
                refine Go.ladd 89 rfl dX1_foldInto_88 ?_
                obtain ⟨v89, ev89, hf⟩ := f_nm hf
                refine Go.topl v89 ev89 ?_
                refine Go.lstore_n 90 [(3, .long v89), (0, .ref a0), (5, .int l55_5), (6, .int l67_6)] rfl dX1_foldInto_89 (by decide) rfl ?_
                refine Go.inc 3 93 (1 : Int32) [(6, .int (l67_6 + (1 : Int32))), (3, .long v89), (0, .ref a0), (5, .int l55_5)] rfl dX1_foldInto_90 rfl ci_1 (by decide) rfl ?_
                refine Go.goto 67 dX1_foldInto_93 rfl ?_
                exact Go.sub [2, 1, 3, 0] [(0, .ref a0), (3, .long v89), (5, .int l55_5), (6, .int (l67_6 + (1 : Int32)))] rfl (ih v89 (l67_6 + (1 : Int32)) hf)
          exact Go.sub [1, 2, 3, 0] [(0, .ref a0), (3, .long l55_3), (5, .int l55_5), (6, .int (0 : Int32))] rfl (L67 n l55_3 (0 : Int32) hf)
    exact Go.sub [1, 2, 0] [(0, .ref a0), (3, .long x52_3), (5, .int (0 : Int32))] rfl (L55 n x52_3 (0 : Int32) hf)
  clear eK52
  have L5 : ∀ (fu : Nat) (l5_3 : Int64) (l5_5 : Int32), F_X1_foldInto_L5 n S a0 K52 fu l5_3 l5_5 = some r → GoM G l 4 (TmR G (some (.long r)) 97 S 0 0) mX1_foldInto 5 [(0, .ref a0), (3, .long l5_3), (5, .int l5_5)] [] S := by
    intro fu
    induction fu with
    | zero => intro l5_3 l5_5 hf; rw [F_X1_foldInto_L5] at hf; cases hf
    | succ fu ih =>
      intro l5_3 l5_5 hf
      rw [F_X1_foldInto_L5] at hf
      refine Go.iload 2 7 rfl dX1_foldInto_5 rfl ?_
      refine Go.aload_n 0 8 rfl dX1_foldInto_7 rfl ?_
      refine Go.getI 11 rfl dX1_foldInto_8 fl_X1_37 rfl (isT_lt ha0) (isT_sh ha0) ?_
      refine Go.icmp_ge 52 14 rfl dX1_foldInto_11 rfl (fun hc => ?_) (fun hc => ?_)
      · replace hf := f_if hf hc
        exact Go.sub [0, 1] [(0, .ref a0), (3, .long l5_3)] rfl (J52 l5_3 hf)
      · replace hf := f_el hf hc
        refine Go.iconst (0 : Int32) 15 rfl dX1_foldInto_14 ci_0 ?_
        refine Go.istore 17 [(6, .int (0 : Int32)), (0, .ref a0), (3, .long l5_3), (5, .int l5_5)] rfl dX1_foldInto_15 (by decide) rfl ?_
        obtain ⟨K46, eK46, hf⟩ := f_jn hf
        have J46 : ∀ (x46_3 : Int64), K46 x46_3 = some r → GoM G l 4 (TmR G (some (.long r)) 97 S 0 0) mX1_foldInto 46 [(0, .ref a0), (3, .long x46_3), (5, .int l5_5)] [] S := by
          intro x46_3 hf
          rw [eK46] at hf
          refine Go.inc 2 49 (1 : Int32) [(5, .int (l5_5 + (1 : Int32))), (0, .ref a0), (3, .long x46_3)] rfl dX1_foldInto_46 rfl ci_1 (by decide) rfl ?_
          refine Go.goto 5 dX1_foldInto_49 rfl ?_
          exact Go.sub [1, 2, 0] [(0, .ref a0), (3, .long x46_3), (5, .int (l5_5 + (1 : Int32)))] rfl (ih x46_3 (l5_5 + (1 : Int32)) hf)
        clear eK46
        have L17 : ∀ (fu : Nat) (l17_3 : Int64) (l17_6 : Int32), F_X1_foldInto_L17 n S a0 l5_5 K46 fu l17_3 l17_6 = some r → GoM G l 4 (TmR G (some (.long r)) 97 S 0 0) mX1_foldInto 17 [(0, .ref a0), (3, .long l17_3), (5, .int l5_5), (6, .int l17_6)] [] S := by
          intro fu
          induction fu with
          | zero => intro l17_3 l17_6 hf; rw [F_X1_foldInto_L17] at hf; cases hf
          | succ fu ih =>
            intro l17_3 l17_6 hf
            rw [F_X1_foldInto_L17] at hf
            refine Go.iload 3 19 rfl dX1_foldInto_17 rfl ?_
            refine Go.bipush (6 : Int32) 21 rfl dX1_foldInto_19 cb_6 ?_
            refine Go.icmp_ge 46 24 rfl dX1_foldInto_21 rfl (fun hc => ?_) (fun hc => ?_)
            · replace hf := f_if hf hc
              exact Go.sub [0, 1, 2] [(0, .ref a0), (3, .long l17_3), (5, .int l5_5)] rfl (J46 l17_3 hf)
            · replace hf := f_el hf hc
              refine Go.ldc2 (31 : Int64) 27 rfl dX1_foldInto_24 (am_mem 824 (by decide +kernel) rfl) ?_
              refine Go.lload_n 1 28 rfl dX1_foldInto_27 rfl ?_
              refine Go.lmul 29 rfl dX1_foldInto_28 ?_
              refine Go.aload_n 0 30 rfl dX1_foldInto_29 rfl ?_
              refine Go.iload 2 32 rfl dX1_foldInto_30 rfl ?_
              refine Go.iload 3 34 rfl dX1_foldInto_32 rfl ?_
              obtain ⟨r34, er34, hf⟩ := f_bnd hf
              refine Go.cV 37 [.int l5_5, .int l17_6] [.long ((31 : Int64) * l17_3)] (C_X1_cardFact G l n S a0 l5_5 l17_6 r34 ha0 er34) rfl dX1_foldInto_34 cv_X1_169 ha0 (by decide) (by decide) rfl (Nat.le_of_ble_eq_true rfl) ?_
              refine Go.i2l 38 rfl dX1_foldInto_37 ?_
              refine Go.ladd 39 rfl dX1_foldInto_38 ?_
              obtain ⟨v39, ev39, hf⟩ := f_nm hf
              refine Go.topl v39 ev39 ?_
              refine Go.lstore_n 40 [(3, .long v39), (0, .ref a0), (5, .int l5_5), (6, .int l17_6)] rfl dX1_foldInto_39 (by decide) rfl ?_
              refine Go.inc 3 43 (1 : Int32) [(6, .int (l17_6 + (1 : Int32))), (3, .long v39), (0, .ref a0), (5, .int l5_5)] rfl dX1_foldInto_40 rfl ci_1 (by decide) rfl ?_
              refine Go.goto 17 dX1_foldInto_43 rfl ?_
              exact Go.sub [2, 1, 3, 0] [(0, .ref a0), (3, .long v39), (5, .int l5_5), (6, .int (l17_6 + (1 : Int32)))] rfl (ih v39 (l17_6 + (1 : Int32)) hf)
        exact Go.sub [1, 2, 3, 0] [(0, .ref a0), (3, .long l5_3), (5, .int l5_5), (6, .int (0 : Int32))] rfl (L17 n l5_3 (0 : Int32) hf)
  exact Go.sub [2, 1, 0] [(0, .ref a0), (3, .long a1), (5, .int (0 : Int32))] rfl (L5 n a1 (0 : Int32) hf)
end
