section
-- ===== PART A: goes FIRST, ahead of the names: the tables' words, and 'selects' of the private methods out of them =====
/-- a private method of a class that the tables say can be made, by its rows of tables_1 -/
def lw_okq (q : MethodName × Nat) : Prop := (q.1.cls ≠ "java/lang/invoke/MethodHandle" ∧ q.1.cls ≠ "java/lang/invoke/VarHandle") ∧ Cond.instantiable q.1.cls q.2 ∈ tables_1 ∧ Cond.privateMethod q.1 ∈ tables_1 ∧ Cond.instanceMethod q.1 ∈ tables_1
theorem lw_p0 : lw_okq (⟨"LostQuestions", "found", "(I)I"⟩, 12) := ⟨⟨by decide +kernel, by decide +kernel⟩, List.mem_of_getElem? (i := 14) (by decide +kernel), List.mem_of_getElem? (i := 245) (by decide +kernel), List.mem_of_getElem? (i := 246) (by decide +kernel)⟩
theorem lw_p1 : lw_okq (⟨"LostQuestions$Library", "readQuestion", "(LLostQuestions$Row;I)I"⟩, 9) := ⟨⟨by decide +kernel, by decide +kernel⟩, List.mem_of_getElem? (i := 91) (by decide +kernel), List.mem_of_getElem? (i := 315) (by decide +kernel), List.mem_of_getElem? (i := 316) (by decide +kernel)⟩
theorem lw_p2 : lw_okq (⟨"LostQuestions$Library", "readCard", "(LLostQuestions$Row;I)I"⟩, 9) := ⟨⟨by decide +kernel, by decide +kernel⟩, List.mem_of_getElem? (i := 91) (by decide +kernel), List.mem_of_getElem? (i := 323) (by decide +kernel), List.mem_of_getElem? (i := 324) (by decide +kernel)⟩
theorem lw_p3 : lw_okq (⟨"LostQuestions$Library", "yesMeaning", "(I)I"⟩, 9) := ⟨⟨by decide +kernel, by decide +kernel⟩, List.mem_of_getElem? (i := 91) (by decide +kernel), List.mem_of_getElem? (i := 382) (by decide +kernel), List.mem_of_getElem? (i := 383) (by decide +kernel)⟩
theorem lw_p4 : lw_okq (⟨"LostQuestions$Library", "cardsOn", "(I)I"⟩, 9) := ⟨⟨by decide +kernel, by decide +kernel⟩, List.mem_of_getElem? (i := 91) (by decide +kernel), List.mem_of_getElem? (i := 387) (by decide +kernel), List.mem_of_getElem? (i := 388) (by decide +kernel)⟩
theorem lw_p5 : lw_okq (⟨"LostQuestions$Library", "placesSaying", "(I)I"⟩, 9) := ⟨⟨by decide +kernel, by decide +kernel⟩, List.mem_of_getElem? (i := 91) (by decide +kernel), List.mem_of_getElem? (i := 399) (by decide +kernel), List.mem_of_getElem? (i := 400) (by decide +kernel)⟩
theorem lw_p6 : lw_okq (⟨"LostQuestions$Matchings", "countAhead", "(LLostQuestions$Library;)V"⟩, 8) := ⟨⟨by decide +kernel, by decide +kernel⟩, List.mem_of_getElem? (i := 26) (by decide +kernel), List.mem_of_getElem? (i := 490) (by decide +kernel), List.mem_of_getElem? (i := 491) (by decide +kernel)⟩
theorem lw_p7 : lw_okq (⟨"LostQuestions$Matchings", "spreadAhead", "(III)V"⟩, 8) := ⟨⟨by decide +kernel, by decide +kernel⟩, List.mem_of_getElem? (i := 26) (by decide +kernel), List.mem_of_getElem? (i := 508) (by decide +kernel), List.mem_of_getElem? (i := 509) (by decide +kernel)⟩
theorem lw_p8 : lw_okq (⟨"LostQuestions$Matchings", "mostPairs", "()I"⟩, 8) := ⟨⟨by decide +kernel, by decide +kernel⟩, List.mem_of_getElem? (i := 26) (by decide +kernel), List.mem_of_getElem? (i := 512) (by decide +kernel), List.mem_of_getElem? (i := 513) (by decide +kernel)⟩
theorem lw_p9 : lw_okq (⟨"LostQuestions$Matchings", "countOn", "()V"⟩, 8) := ⟨⟨by decide +kernel, by decide +kernel⟩, List.mem_of_getElem? (i := 26) (by decide +kernel), List.mem_of_getElem? (i := 523) (by decide +kernel), List.mem_of_getElem? (i := 524) (by decide +kernel)⟩
theorem lw_p10 : lw_okq (⟨"LostQuestions$Matchings", "waysFrom", "(II)I"⟩, 8) := ⟨⟨by decide +kernel, by decide +kernel⟩, List.mem_of_getElem? (i := 26) (by decide +kernel), List.mem_of_getElem? (i := 527) (by decide +kernel), List.mem_of_getElem? (i := 528) (by decide +kernel)⟩
theorem lw_p11 : lw_okq (⟨"LostQuestions$Matchings", "firstFullest", "(II)I"⟩, 8) := ⟨⟨by decide +kernel, by decide +kernel⟩, List.mem_of_getElem? (i := 26) (by decide +kernel), List.mem_of_getElem? (i := 536) (by decide +kernel), List.mem_of_getElem? (i := 537) (by decide +kernel)⟩
theorem lw_p12 : lw_okq (⟨"LostQuestions$Matchings", "mostFrom", "(III)I"⟩, 8) := ⟨⟨by decide +kernel, by decide +kernel⟩, List.mem_of_getElem? (i := 26) (by decide +kernel), List.mem_of_getElem? (i := 553) (by decide +kernel), List.mem_of_getElem? (i := 554) (by decide +kernel)⟩
theorem lw_p13 : lw_okq (⟨"LostQuestions$Matchings", "firstWished", "(III)I"⟩, 8) := ⟨⟨by decide +kernel, by decide +kernel⟩, List.mem_of_getElem? (i := 26) (by decide +kernel), List.mem_of_getElem? (i := 557) (by decide +kernel), List.mem_of_getElem? (i := 558) (by decide +kernel)⟩
theorem lw_p14 : lw_okq (⟨"LostQuestions", "tellChances", "(JJ)V"⟩, 12) := ⟨⟨by decide +kernel, by decide +kernel⟩, List.mem_of_getElem? (i := 14) (by decide +kernel), List.mem_of_getElem? (i := 591) (by decide +kernel), List.mem_of_getElem? (i := 592) (by decide +kernel)⟩
theorem lw_p15 : lw_okq (⟨"LostQuestions$Parting", "countMeanings", "(LLostQuestions$Library;I)V"⟩, 7) := ⟨⟨by decide +kernel, by decide +kernel⟩, List.mem_of_getElem? (i := 60) (by decide +kernel), List.mem_of_getElem? (i := 620) (by decide +kernel), List.mem_of_getElem? (i := 621) (by decide +kernel)⟩
def lw_privs_1 : List (MethodName × Nat) := [(⟨"LostQuestions", "found", "(I)I"⟩, 12), (⟨"LostQuestions$Library", "readQuestion", "(LLostQuestions$Row;I)I"⟩, 9), (⟨"LostQuestions$Library", "readCard", "(LLostQuestions$Row;I)I"⟩, 9), (⟨"LostQuestions$Library", "yesMeaning", "(I)I"⟩, 9), (⟨"LostQuestions$Library", "cardsOn", "(I)I"⟩, 9), (⟨"LostQuestions$Library", "placesSaying", "(I)I"⟩, 9), (⟨"LostQuestions$Matchings", "countAhead", "(LLostQuestions$Library;)V"⟩, 8), (⟨"LostQuestions$Matchings", "spreadAhead", "(III)V"⟩, 8), (⟨"LostQuestions$Matchings", "mostPairs", "()I"⟩, 8), (⟨"LostQuestions$Matchings", "countOn", "()V"⟩, 8), (⟨"LostQuestions$Matchings", "waysFrom", "(II)I"⟩, 8), (⟨"LostQuestions$Matchings", "firstFullest", "(II)I"⟩, 8), (⟨"LostQuestions$Matchings", "mostFrom", "(III)I"⟩, 8), (⟨"LostQuestions$Matchings", "firstWished", "(III)I"⟩, 8), (⟨"LostQuestions", "tellChances", "(JJ)V"⟩, 12), (⟨"LostQuestions$Parting", "countMeanings", "(LLostQuestions$Library;I)V"⟩, 7)]
theorem lw_r1 : ∀ q ∈ lw_privs_1, lw_okq q := List.forall_mem_cons.mpr ⟨lw_p0, List.forall_mem_cons.mpr ⟨lw_p1, List.forall_mem_cons.mpr ⟨lw_p2, List.forall_mem_cons.mpr ⟨lw_p3, List.forall_mem_cons.mpr ⟨lw_p4, List.forall_mem_cons.mpr ⟨lw_p5, List.forall_mem_cons.mpr ⟨lw_p6, List.forall_mem_cons.mpr ⟨lw_p7, List.forall_mem_cons.mpr ⟨lw_p8, List.forall_mem_cons.mpr ⟨lw_p9, List.forall_mem_cons.mpr ⟨lw_p10, List.forall_mem_cons.mpr ⟨lw_p11, List.forall_mem_cons.mpr ⟨lw_p12, List.forall_mem_cons.mpr ⟨lw_p13, List.forall_mem_cons.mpr ⟨lw_p14, List.forall_mem_cons.mpr ⟨lw_p15, fun _ h => absurd h List.not_mem_nil⟩⟩⟩⟩⟩⟩⟩⟩⟩⟩⟩⟩⟩⟩⟩⟩
theorem lw_p16 : lw_okq (⟨"LostQuestions$Parting", "partFrom", "(III)V"⟩, 7) := ⟨⟨by decide +kernel, by decide +kernel⟩, List.mem_of_getElem? (i := 60) (by decide +kernel), List.mem_of_getElem? (i := 627) (by decide +kernel), List.mem_of_getElem? (i := 628) (by decide +kernel)⟩
theorem lw_p17 : lw_okq (⟨"LostQuestions$Parting", "fewestFor", "(II)I"⟩, 7) := ⟨⟨by decide +kernel, by decide +kernel⟩, List.mem_of_getElem? (i := 60) (by decide +kernel), List.mem_of_getElem? (i := 643) (by decide +kernel), List.mem_of_getElem? (i := 644) (by decide +kernel)⟩
theorem lw_p18 : lw_okq (⟨"LostQuestions$Library", "firstAlike", "(IIZ)I"⟩, 9) := ⟨⟨by decide +kernel, by decide +kernel⟩, List.mem_of_getElem? (i := 91) (by decide +kernel), List.mem_of_getElem? (i := 667) (by decide +kernel), List.mem_of_getElem? (i := 668) (by decide +kernel)⟩
theorem lw_p19 : lw_okq (⟨"LostQuestions$Library", "homeOf", "(I)I"⟩, 9) := ⟨⟨by decide +kernel, by decide +kernel⟩, List.mem_of_getElem? (i := 91) (by decide +kernel), List.mem_of_getElem? (i := 680) (by decide +kernel), List.mem_of_getElem? (i := 681) (by decide +kernel)⟩
theorem lw_p20 : lw_okq (⟨"LostQuestions$Library", "cardsOfOn", "(II)I"⟩, 9) := ⟨⟨by decide +kernel, by decide +kernel⟩, List.mem_of_getElem? (i := 91) (by decide +kernel), List.mem_of_getElem? (i := 684) (by decide +kernel), List.mem_of_getElem? (i := 685) (by decide +kernel)⟩
theorem lw_p21 : lw_okq (⟨"LostQuestions", "keptThere", "()I"⟩, 12) := ⟨⟨by decide +kernel, by decide +kernel⟩, List.mem_of_getElem? (i := 14) (by decide +kernel), List.mem_of_getElem? (i := 751) (by decide +kernel), List.mem_of_getElem? (i := 752) (by decide +kernel)⟩
theorem lw_p22 : lw_okq (⟨"LostQuestionsModel", "found", "(I)I"⟩, 21) := ⟨⟨by decide +kernel, by decide +kernel⟩, List.mem_of_getElem? (i := 782) (by decide +kernel), List.mem_of_getElem? (i := 864) (by decide +kernel), List.mem_of_getElem? (i := 865) (by decide +kernel)⟩
theorem lw_p23 : lw_okq (⟨"LostQuestionsModel", "tell", "(I)I"⟩, 21) := ⟨⟨by decide +kernel, by decide +kernel⟩, List.mem_of_getElem? (i := 782) (by decide +kernel), List.mem_of_getElem? (i := 872) (by decide +kernel), List.mem_of_getElem? (i := 873) (by decide +kernel)⟩
theorem lw_p24 : lw_okq (⟨"LostQuestionsModel", "reads", "(I)I"⟩, 21) := ⟨⟨by decide +kernel, by decide +kernel⟩, List.mem_of_getElem? (i := 782) (by decide +kernel), List.mem_of_getElem? (i := 908) (by decide +kernel), List.mem_of_getElem? (i := 909) (by decide +kernel)⟩
theorem lw_p25 : lw_okq (⟨"LostQuestionsModel", "byteAt", "(I)I"⟩, 21) := ⟨⟨by decide +kernel, by decide +kernel⟩, List.mem_of_getElem? (i := 782) (by decide +kernel), List.mem_of_getElem? (i := 914) (by decide +kernel), List.mem_of_getElem? (i := 915) (by decide +kernel)⟩
theorem lw_p26 : lw_okq (⟨"LostQuestionsModel", "takesQuestion", "(I)Z"⟩, 21) := ⟨⟨by decide +kernel, by decide +kernel⟩, List.mem_of_getElem? (i := 782) (by decide +kernel), List.mem_of_getElem? (i := 918) (by decide +kernel), List.mem_of_getElem? (i := 919) (by decide +kernel)⟩
theorem lw_p27 : lw_okq (⟨"LostQuestionsModel", "takes", "(IIII)Z"⟩, 21) := ⟨⟨by decide +kernel, by decide +kernel⟩, List.mem_of_getElem? (i := 782) (by decide +kernel), List.mem_of_getElem? (i := 922) (by decide +kernel), List.mem_of_getElem? (i := 923) (by decide +kernel)⟩
theorem lw_p28 : lw_okq (⟨"LostQuestionsModel", "takesCard", "(I)Z"⟩, 21) := ⟨⟨by decide +kernel, by decide +kernel⟩, List.mem_of_getElem? (i := 782) (by decide +kernel), List.mem_of_getElem? (i := 926) (by decide +kernel), List.mem_of_getElem? (i := 927) (by decide +kernel)⟩
theorem lw_p29 : lw_okq (⟨"LostQuestionsModel", "isCard", "(I)Z"⟩, 21) := ⟨⟨by decide +kernel, by decide +kernel⟩, List.mem_of_getElem? (i := 782) (by decide +kernel), List.mem_of_getElem? (i := 944) (by decide +kernel), List.mem_of_getElem? (i := 945) (by decide +kernel)⟩
theorem lw_p30 : lw_okq (⟨"LostQuestionsModel", "toldCard", "(II)I"⟩, 21) := ⟨⟨by decide +kernel, by decide +kernel⟩, List.mem_of_getElem? (i := 782) (by decide +kernel), List.mem_of_getElem? (i := 948) (by decide +kernel), List.mem_of_getElem? (i := 949) (by decide +kernel)⟩
theorem lw_p31 : lw_okq (⟨"LostQuestionsModel", "means", "(I)I"⟩, 21) := ⟨⟨by decide +kernel, by decide +kernel⟩, List.mem_of_getElem? (i := 782) (by decide +kernel), List.mem_of_getElem? (i := 952) (by decide +kernel), List.mem_of_getElem? (i := 953) (by decide +kernel)⟩
def lw_privs_2 : List (MethodName × Nat) := [(⟨"LostQuestions$Parting", "partFrom", "(III)V"⟩, 7), (⟨"LostQuestions$Parting", "fewestFor", "(II)I"⟩, 7), (⟨"LostQuestions$Library", "firstAlike", "(IIZ)I"⟩, 9), (⟨"LostQuestions$Library", "homeOf", "(I)I"⟩, 9), (⟨"LostQuestions$Library", "cardsOfOn", "(II)I"⟩, 9), (⟨"LostQuestions", "keptThere", "()I"⟩, 12), (⟨"LostQuestionsModel", "found", "(I)I"⟩, 21), (⟨"LostQuestionsModel", "tell", "(I)I"⟩, 21), (⟨"LostQuestionsModel", "reads", "(I)I"⟩, 21), (⟨"LostQuestionsModel", "byteAt", "(I)I"⟩, 21), (⟨"LostQuestionsModel", "takesQuestion", "(I)Z"⟩, 21), (⟨"LostQuestionsModel", "takes", "(IIII)Z"⟩, 21), (⟨"LostQuestionsModel", "takesCard", "(I)Z"⟩, 21), (⟨"LostQuestionsModel", "isCard", "(I)Z"⟩, 21), (⟨"LostQuestionsModel", "toldCard", "(II)I"⟩, 21), (⟨"LostQuestionsModel", "means", "(I)I"⟩, 21)]
theorem lw_r2 : ∀ q ∈ lw_privs_2, lw_okq q := List.forall_mem_cons.mpr ⟨lw_p16, List.forall_mem_cons.mpr ⟨lw_p17, List.forall_mem_cons.mpr ⟨lw_p18, List.forall_mem_cons.mpr ⟨lw_p19, List.forall_mem_cons.mpr ⟨lw_p20, List.forall_mem_cons.mpr ⟨lw_p21, List.forall_mem_cons.mpr ⟨lw_p22, List.forall_mem_cons.mpr ⟨lw_p23, List.forall_mem_cons.mpr ⟨lw_p24, List.forall_mem_cons.mpr ⟨lw_p25, List.forall_mem_cons.mpr ⟨lw_p26, List.forall_mem_cons.mpr ⟨lw_p27, List.forall_mem_cons.mpr ⟨lw_p28, List.forall_mem_cons.mpr ⟨lw_p29, List.forall_mem_cons.mpr ⟨lw_p30, List.forall_mem_cons.mpr ⟨lw_p31, fun _ h => absurd h List.not_mem_nil⟩⟩⟩⟩⟩⟩⟩⟩⟩⟩⟩⟩⟩⟩⟩⟩
theorem lw_p32 : lw_okq (⟨"LostQuestionsModel", "answers", "(I)I"⟩, 21) := ⟨⟨by decide +kernel, by decide +kernel⟩, List.mem_of_getElem? (i := 782) (by decide +kernel), List.mem_of_getElem? (i := 956) (by decide +kernel), List.mem_of_getElem? (i := 957) (by decide +kernel)⟩
theorem lw_p33 : lw_okq (⟨"LostQuestionsModel", "isQuestion", "(I)Z"⟩, 21) := ⟨⟨by decide +kernel, by decide +kernel⟩, List.mem_of_getElem? (i := 782) (by decide +kernel), List.mem_of_getElem? (i := 964) (by decide +kernel), List.mem_of_getElem? (i := 965) (by decide +kernel)⟩
theorem lw_p34 : lw_okq (⟨"LostQuestionsModel", "isFit", "(II)Z"⟩, 21) := ⟨⟨by decide +kernel, by decide +kernel⟩, List.mem_of_getElem? (i := 782) (by decide +kernel), List.mem_of_getElem? (i := 975) (by decide +kernel), List.mem_of_getElem? (i := 976) (by decide +kernel)⟩
theorem lw_p35 : lw_okq (⟨"LostQuestionsModel", "suits", "(IIII)Z"⟩, 21) := ⟨⟨by decide +kernel, by decide +kernel⟩, List.mem_of_getElem? (i := 782) (by decide +kernel), List.mem_of_getElem? (i := 979) (by decide +kernel), List.mem_of_getElem? (i := 980) (by decide +kernel)⟩
theorem lw_p36 : lw_okq (⟨"LostQuestionsModel", "puts", "(II)I"⟩, 21) := ⟨⟨by decide +kernel, by decide +kernel⟩, List.mem_of_getElem? (i := 782) (by decide +kernel), List.mem_of_getElem? (i := 987) (by decide +kernel), List.mem_of_getElem? (i := 988) (by decide +kernel)⟩
theorem lw_p37 : lw_okq (⟨"LostQuestionsModel", "isFree", "(I)Z"⟩, 21) := ⟨⟨by decide +kernel, by decide +kernel⟩, List.mem_of_getElem? (i := 782) (by decide +kernel), List.mem_of_getElem? (i := 1008) (by decide +kernel), List.mem_of_getElem? (i := 1009) (by decide +kernel)⟩
theorem lw_p38 : lw_okq (⟨"LostQuestionsModel", "isFreeCard", "(I)Z"⟩, 21) := ⟨⟨by decide +kernel, by decide +kernel⟩, List.mem_of_getElem? (i := 782) (by decide +kernel), List.mem_of_getElem? (i := 1012) (by decide +kernel), List.mem_of_getElem? (i := 1013) (by decide +kernel)⟩
theorem lw_p39 : lw_okq (⟨"LostQuestionsModel", "takesIt", "(II)V"⟩, 21) := ⟨⟨by decide +kernel, by decide +kernel⟩, List.mem_of_getElem? (i := 782) (by decide +kernel), List.mem_of_getElem? (i := 1016) (by decide +kernel), List.mem_of_getElem? (i := 1017) (by decide +kernel)⟩
theorem lw_p40 : lw_okq (⟨"LostQuestionsModel", "stands", "(I)I"⟩, 21) := ⟨⟨by decide +kernel, by decide +kernel⟩, List.mem_of_getElem? (i := 782) (by decide +kernel), List.mem_of_getElem? (i := 1020) (by decide +kernel), List.mem_of_getElem? (i := 1021) (by decide +kernel)⟩
theorem lw_p41 : lw_okq (⟨"LostQuestionsModel", "standing", "(I)I"⟩, 21) := ⟨⟨by decide +kernel, by decide +kernel⟩, List.mem_of_getElem? (i := 782) (by decide +kernel), List.mem_of_getElem? (i := 1036) (by decide +kernel), List.mem_of_getElem? (i := 1037) (by decide +kernel)⟩
theorem lw_p42 : lw_okq (⟨"LostQuestionsModel", "layMatchings", "(Z)V"⟩, 21) := ⟨⟨by decide +kernel, by decide +kernel⟩, List.mem_of_getElem? (i := 782) (by decide +kernel), List.mem_of_getElem? (i := 1053) (by decide +kernel), List.mem_of_getElem? (i := 1054) (by decide +kernel)⟩
theorem lw_p43 : lw_okq (⟨"LostQuestionsModel", "counts", "(I)V"⟩, 21) := ⟨⟨by decide +kernel, by decide +kernel⟩, List.mem_of_getElem? (i := 782) (by decide +kernel), List.mem_of_getElem? (i := 1057) (by decide +kernel), List.mem_of_getElem? (i := 1058) (by decide +kernel)⟩
theorem lw_p44 : lw_okq (⟨"LostQuestionsModel", "mayMatch", "(II)Z"⟩, 21) := ⟨⟨by decide +kernel, by decide +kernel⟩, List.mem_of_getElem? (i := 782) (by decide +kernel), List.mem_of_getElem? (i := 1061) (by decide +kernel), List.mem_of_getElem? (i := 1062) (by decide +kernel)⟩
theorem lw_p45 : lw_okq (⟨"LostQuestionsModel", "laid", "(I)I"⟩, 21) := ⟨⟨by decide +kernel, by decide +kernel⟩, List.mem_of_getElem? (i := 782) (by decide +kernel), List.mem_of_getElem? (i := 1065) (by decide +kernel), List.mem_of_getElem? (i := 1066) (by decide +kernel)⟩
theorem lw_p46 : lw_okq (⟨"LostQuestionsModel", "manyFit", "(III)I"⟩, 21) := ⟨⟨by decide +kernel, by decide +kernel⟩, List.mem_of_getElem? (i := 782) (by decide +kernel), List.mem_of_getElem? (i := 1106) (by decide +kernel), List.mem_of_getElem? (i := 1107) (by decide +kernel)⟩
theorem lw_p47 : lw_okq (⟨"LostQuestionsModel", "manyThere", "(III)I"⟩, 21) := ⟨⟨by decide +kernel, by decide +kernel⟩, List.mem_of_getElem? (i := 782) (by decide +kernel), List.mem_of_getElem? (i := 1130) (by decide +kernel), List.mem_of_getElem? (i := 1131) (by decide +kernel)⟩
def lw_privs_3 : List (MethodName × Nat) := [(⟨"LostQuestionsModel", "answers", "(I)I"⟩, 21), (⟨"LostQuestionsModel", "isQuestion", "(I)Z"⟩, 21), (⟨"LostQuestionsModel", "isFit", "(II)Z"⟩, 21), (⟨"LostQuestionsModel", "suits", "(IIII)Z"⟩, 21), (⟨"LostQuestionsModel", "puts", "(II)I"⟩, 21), (⟨"LostQuestionsModel", "isFree", "(I)Z"⟩, 21), (⟨"LostQuestionsModel", "isFreeCard", "(I)Z"⟩, 21), (⟨"LostQuestionsModel", "takesIt", "(II)V"⟩, 21), (⟨"LostQuestionsModel", "stands", "(I)I"⟩, 21), (⟨"LostQuestionsModel", "standing", "(I)I"⟩, 21), (⟨"LostQuestionsModel", "layMatchings", "(Z)V"⟩, 21), (⟨"LostQuestionsModel", "counts", "(I)V"⟩, 21), (⟨"LostQuestionsModel", "mayMatch", "(II)Z"⟩, 21), (⟨"LostQuestionsModel", "laid", "(I)I"⟩, 21), (⟨"LostQuestionsModel", "manyFit", "(III)I"⟩, 21), (⟨"LostQuestionsModel", "manyThere", "(III)I"⟩, 21)]
theorem lw_r3 : ∀ q ∈ lw_privs_3, lw_okq q := List.forall_mem_cons.mpr ⟨lw_p32, List.forall_mem_cons.mpr ⟨lw_p33, List.forall_mem_cons.mpr ⟨lw_p34, List.forall_mem_cons.mpr ⟨lw_p35, List.forall_mem_cons.mpr ⟨lw_p36, List.forall_mem_cons.mpr ⟨lw_p37, List.forall_mem_cons.mpr ⟨lw_p38, List.forall_mem_cons.mpr ⟨lw_p39, List.forall_mem_cons.mpr ⟨lw_p40, List.forall_mem_cons.mpr ⟨lw_p41, List.forall_mem_cons.mpr ⟨lw_p42, List.forall_mem_cons.mpr ⟨lw_p43, List.forall_mem_cons.mpr ⟨lw_p44, List.forall_mem_cons.mpr ⟨lw_p45, List.forall_mem_cons.mpr ⟨lw_p46, List.forall_mem_cons.mpr ⟨lw_p47, fun _ h => absurd h List.not_mem_nil⟩⟩⟩⟩⟩⟩⟩⟩⟩⟩⟩⟩⟩⟩⟩⟩
theorem lw_p48 : lw_okq (⟨"LostQuestionsModel", "manyHere", "(II)I"⟩, 21) := ⟨⟨by decide +kernel, by decide +kernel⟩, List.mem_of_getElem? (i := 782) (by decide +kernel), List.mem_of_getElem? (i := 1134) (by decide +kernel), List.mem_of_getElem? (i := 1135) (by decide +kernel)⟩
theorem lw_p49 : lw_okq (⟨"LostQuestionsModel", "lying", "(II)I"⟩, 21) := ⟨⟨by decide +kernel, by decide +kernel⟩, List.mem_of_getElem? (i := 782) (by decide +kernel), List.mem_of_getElem? (i := 1145) (by decide +kernel), List.mem_of_getElem? (i := 1146) (by decide +kernel)⟩
theorem lw_p50 : lw_okq (⟨"LostQuestionsModel", "counted", "(I)I"⟩, 21) := ⟨⟨by decide +kernel, by decide +kernel⟩, List.mem_of_getElem? (i := 782) (by decide +kernel), List.mem_of_getElem? (i := 1183) (by decide +kernel), List.mem_of_getElem? (i := 1184) (by decide +kernel)⟩
def lw_privs_4 : List (MethodName × Nat) := [(⟨"LostQuestionsModel", "manyHere", "(II)I"⟩, 21), (⟨"LostQuestionsModel", "lying", "(II)I"⟩, 21), (⟨"LostQuestionsModel", "counted", "(I)I"⟩, 21)]
theorem lw_r4 : ∀ q ∈ lw_privs_4, lw_okq q := List.forall_mem_cons.mpr ⟨lw_p48, List.forall_mem_cons.mpr ⟨lw_p49, List.forall_mem_cons.mpr ⟨lw_p50, fun _ h => absurd h List.not_mem_nil⟩⟩⟩
def lw_privs : List (MethodName × Nat) := lw_privs_1 ++ (lw_privs_2 ++ (lw_privs_3 ++ (lw_privs_4)))
def lw_tbl : List Cond := k2_sels lw_privs ++ tables_1
theorem lw_privs_ok : ∀ q ∈ lw_privs, lw_okq q := by
  show ∀ q ∈ lw_privs_1 ++ (lw_privs_2 ++ (lw_privs_3 ++ (lw_privs_4))), lw_okq q
  exact List.forall_mem_append.mpr ⟨lw_r1, List.forall_mem_append.mpr ⟨lw_r2, List.forall_mem_append.mpr ⟨lw_r3, lw_r4⟩⟩⟩
end
section
def RX0 : String := "LostQuestions$Kinds"
def TX0 : u_T := fun k => match k with
  | _ => ("", "", "", false)
def tyX0 : Nat → FieldType := fun k => match k with
  | _ => .int
abbrev wsX00 : List Cond := u_ws RX0 TX0 0
theorem nmX0 : ∀ a, a < 0 → ∀ b, b < 0 → a ≠ b → (TX0 a).2.1 ≠ (TX0 b).2.1 := by decide +kernel
theorem tyX0_ok : ∀ k, k < 0 → parseFieldDescriptor (TX0 k).2.2.1 = some (tyX0 k) := by decide +kernel
abbrev cX0_ofLetter : ByteArray := prog_2_method_2_code
def yX0_ofLetter : MethodName := ⟨RX0, "ofLetter", "(I)I"⟩
abbrev cX0_isA : ByteArray := prog_2_method_3_code
def yX0_isA : MethodName := ⟨RX0, "isA", "(II)Z"⟩
abbrev cX0_meaning : ByteArray := prog_2_method_4_code
def yX0_meaning : MethodName := ⟨RX0, "meaning", "(III)I"⟩
def RX1 : String := "LostQuestions$Library"
def TX1 : u_T := fun k => match k with
  | 0 => ("LostQuestions$Library", "kinds", "[I", true)
  | 1 => ("LostQuestions$Library", "says", "[I", true)
  | 2 => ("LostQuestions$Library", "asksFor", "[I", true)
  | 3 => ("LostQuestions$Library", "froms", "[I", true)
  | 4 => ("LostQuestions$Library", "tos", "[I", true)
  | 5 => ("LostQuestions$Library", "wishes", "[I", true)
  | 6 => ("LostQuestions$Library", "now", "LLostQuestions$Standing;", true)
  | 7 => ("LostQuestions$Library", "cards", "I", false)
  | _ => ("LostQuestions$Library", "questions", "I", false)
def tyX1 : Nat → FieldType := fun k => match k with
  | 0 => .array .int
  | 1 => .array .int
  | 2 => .array .int
  | 3 => .array .int
  | 4 => .array .int
  | 5 => .array .int
  | 6 => .object "LostQuestions$Standing"
  | 7 => .int
  | _ => .int
abbrev wsX10 : List Cond := u_ws RX1 TX1 9
theorem nmX1 : ∀ a, a < 9 → ∀ b, b < 9 → a ≠ b → (TX1 a).2.1 ≠ (TX1 b).2.1 := by decide +kernel
theorem tyX1_ok : ∀ k, k < 9 → parseFieldDescriptor (TX1 k).2.2.1 = some (tyX1 k) := by decide +kernel
abbrev cX1_init : ByteArray := prog_3_method_1_code
def yX1_init : MethodName := ⟨RX1, "<init>", "()V"⟩
abbrev cX1_readFrom : ByteArray := prog_3_method_2_code
def yX1_readFrom : MethodName := ⟨RX1, "readFrom", "(LLostQuestions$Row;)I"⟩
abbrev cX1_pastBlanks : ByteArray := prog_3_method_3_code
def yX1_pastBlanks : MethodName := ⟨RX1, "pastBlanks", "(LLostQuestions$Row;I)I"⟩
abbrev cX1_readCard : ByteArray := prog_3_method_4_code
def yX1_readCard : MethodName := ⟨RX1, "readCard", "(LLostQuestions$Row;I)I"⟩
abbrev cX1_readQuestion : ByteArray := prog_3_method_5_code
def yX1_readQuestion : MethodName := ⟨RX1, "readQuestion", "(LLostQuestions$Row;I)I"⟩
abbrev cX1_figure : ByteArray := prog_3_method_6_code
def yX1_figure : MethodName := ⟨RX1, "figure", "(LLostQuestions$Row;III)I"⟩
abbrev cX1_isCard : ByteArray := prog_3_method_7_code
def yX1_isCard : MethodName := ⟨RX1, "isCard", "(I)Z"⟩
abbrev cX1_isQuestion : ByteArray := prog_3_method_8_code
def yX1_isQuestion : MethodName := ⟨RX1, "isQuestion", "(I)Z"⟩
abbrev cX1_allCards : ByteArray := prog_3_method_9_code
def yX1_allCards : MethodName := ⟨RX1, "allCards", "()I"⟩
abbrev cX1_isFreeCard : ByteArray := prog_3_method_10_code
def yX1_isFreeCard : MethodName := ⟨RX1, "isFreeCard", "(I)Z"⟩
abbrev cX1_isFreeQuestion : ByteArray := prog_3_method_11_code
def yX1_isFreeQuestion : MethodName := ⟨RX1, "isFreeQuestion", "(I)Z"⟩
abbrev cX1_freeCards : ByteArray := prog_3_method_12_code
def yX1_freeCards : MethodName := ⟨RX1, "freeCards", "()I"⟩
abbrev cX1_answered : ByteArray := prog_3_method_13_code
def yX1_answered : MethodName := ⟨RX1, "answered", "()I"⟩
abbrev cX1_meaningOf : ByteArray := prog_3_method_14_code
def yX1_meaningOf : MethodName := ⟨RX1, "meaningOf", "(I)I"⟩
abbrev cX1_isFitting : ByteArray := prog_3_method_15_code
def yX1_isFitting : MethodName := ⟨RX1, "isFitting", "(II)Z"⟩
abbrev cX1_fittingCards : ByteArray := prog_3_method_16_code
def yX1_fittingCards : MethodName := ⟨RX1, "fittingCards", "(I)I"⟩
abbrev cX1_trueCards : ByteArray := prog_3_method_17_code
def yX1_trueCards : MethodName := ⟨RX1, "trueCards", "(I)I"⟩
abbrev cX1_questionsFitted : ByteArray := prog_3_method_18_code
def yX1_questionsFitted : MethodName := ⟨RX1, "questionsFitted", "(I)I"⟩
abbrev cX1_verdict : ByteArray := prog_3_method_19_code
def yX1_verdict : MethodName := ⟨RX1, "verdict", "(I)I"⟩
abbrev cX1_answeredWith : ByteArray := prog_3_method_20_code
def yX1_answeredWith : MethodName := ⟨RX1, "answeredWith", "(I)I"⟩
abbrev cX1_waysOfTruth : ByteArray := prog_3_method_21_code
def yX1_waysOfTruth : MethodName := ⟨RX1, "waysOfTruth", "(I)I"⟩
abbrev cX1_cardFact : ByteArray := prog_3_method_22_code
def yX1_cardFact : MethodName := ⟨RX1, "cardFact", "(II)I"⟩
abbrev cX1_questionFact : ByteArray := prog_3_method_23_code
def yX1_questionFact : MethodName := ⟨RX1, "questionFact", "(II)I"⟩
abbrev cX1_markOf : ByteArray := prog_3_method_24_code
def yX1_markOf : MethodName := ⟨RX1, "markOf", "(II)I"⟩
abbrev cX1_yesMeaning : ByteArray := prog_3_method_25_code
def yX1_yesMeaning : MethodName := ⟨RX1, "yesMeaning", "(I)I"⟩
abbrev cX1_cardsOn : ByteArray := prog_3_method_26_code
def yX1_cardsOn : MethodName := ⟨RX1, "cardsOn", "(I)I"⟩
abbrev cX1_placesSaying : ByteArray := prog_3_method_27_code
def yX1_placesSaying : MethodName := ⟨RX1, "placesSaying", "(I)I"⟩
abbrev cX1_placesAmong : ByteArray := prog_3_method_28_code
def yX1_placesAmong : MethodName := ⟨RX1, "placesAmong", "()I"⟩
abbrev cX1_pairsWith : ByteArray := prog_3_method_29_code
def yX1_pairsWith : MethodName := ⟨RX1, "pairsWith", "(LLostQuestions$Row;Z)I"⟩
abbrev cX1_firstAlike : ByteArray := prog_3_method_30_code
def yX1_firstAlike : MethodName := ⟨RX1, "firstAlike", "(IIZ)I"⟩
abbrev cX1_cardsOfOn : ByteArray := prog_3_method_31_code
def yX1_cardsOfOn : MethodName := ⟨RX1, "cardsOfOn", "(II)I"⟩
abbrev cX1_homeOf : ByteArray := prog_3_method_32_code
def yX1_homeOf : MethodName := ⟨RX1, "homeOf", "(I)I"⟩
abbrev cX1_strayCards : ByteArray := prog_3_method_33_code
def yX1_strayCards : MethodName := ⟨RX1, "strayCards", "()I"⟩
abbrev cX1_fewestMoved : ByteArray := prog_3_method_34_code
def yX1_fewestMoved : MethodName := ⟨RX1, "fewestMoved", "()I"⟩
abbrev cX1_mostStaying : ByteArray := prog_3_method_35_code
def yX1_mostStaying : MethodName := ⟨RX1, "mostStaying", "(LLostQuestions$Library;III)I"⟩
abbrev cX1_layByAge : ByteArray := prog_3_method_36_code
def yX1_layByAge : MethodName := ⟨RX1, "layByAge", "(LLostQuestions$Row;)V"⟩
abbrev cX1_cardByLot : ByteArray := prog_3_method_37_code
def yX1_cardByLot : MethodName := ⟨RX1, "cardByLot", "(IJ)I"⟩
abbrev cX1_foldInto : ByteArray := prog_3_method_38_code
def yX1_foldInto : MethodName := ⟨RX1, "foldInto", "(J)J"⟩
def RX2 : String := "LostQuestions$Matchings"
def TX2 : u_T := fun k => match k with
  | 0 => ("LostQuestions$Matchings", "pairable", "[I", true)
  | 1 => ("LostQuestions$Matchings", "waysAhead", "[I", true)
  | 2 => ("LostQuestions$Matchings", "waysOn", "[I", true)
  | 3 => ("LostQuestions$Matchings", "questions", "I", false)
  | 4 => ("LostQuestions$Matchings", "cards", "I", false)
  | 5 => ("LostQuestions$Matchings", "sets", "I", false)
  | 6 => ("LostQuestions$Matchings", "pairs", "I", false)
  | _ => ("LostQuestions$Matchings", "total", "I", false)
def tyX2 : Nat → FieldType := fun k => match k with
  | 0 => .array .int
  | 1 => .array .int
  | 2 => .array .int
  | 3 => .int
  | 4 => .int
  | 5 => .int
  | 6 => .int
  | _ => .int
abbrev wsX20 : List Cond := u_ws RX2 TX2 8
theorem nmX2 : ∀ a, a < 8 → ∀ b, b < 8 → a ≠ b → (TX2 a).2.1 ≠ (TX2 b).2.1 := by decide +kernel
theorem tyX2_ok : ∀ k, k < 8 → parseFieldDescriptor (TX2 k).2.2.1 = some (tyX2 k) := by decide +kernel
abbrev cX2_init : ByteArray := prog_4_method_1_code
def yX2_init : MethodName := ⟨RX2, "<init>", "()V"⟩
abbrev cX2_countIn : ByteArray := prog_4_method_2_code
def yX2_countIn : MethodName := ⟨RX2, "countIn", "(LLostQuestions$Library;)V"⟩
abbrev cX2_countAhead : ByteArray := prog_4_method_3_code
def yX2_countAhead : MethodName := ⟨RX2, "countAhead", "(LLostQuestions$Library;)V"⟩
abbrev cX2_spreadAhead : ByteArray := prog_4_method_4_code
def yX2_spreadAhead : MethodName := ⟨RX2, "spreadAhead", "(III)V"⟩
abbrev cX2_mostPairs : ByteArray := prog_4_method_5_code
def yX2_mostPairs : MethodName := ⟨RX2, "mostPairs", "()I"⟩
abbrev cX2_countOn : ByteArray := prog_4_method_6_code
def yX2_countOn : MethodName := ⟨RX2, "countOn", "()V"⟩
abbrev cX2_waysFrom : ByteArray := prog_4_method_7_code
def yX2_waysFrom : MethodName := ⟨RX2, "waysFrom", "(II)I"⟩
abbrev cX2_countWith : ByteArray := prog_4_method_8_code
def yX2_countWith : MethodName := ⟨RX2, "countWith", "(II)I"⟩
abbrev cX2_sureCard : ByteArray := prog_4_method_9_code
def yX2_sureCard : MethodName := ⟨RX2, "sureCard", "(I)I"⟩
abbrev cX2_layFullest : ByteArray := prog_4_method_10_code
def yX2_layFullest : MethodName := ⟨RX2, "layFullest", "(LLostQuestions$Row;)V"⟩
abbrev cX2_firstFullest : ByteArray := prog_4_method_11_code
def yX2_firstFullest : MethodName := ⟨RX2, "firstFullest", "(II)I"⟩
abbrev cX2_layMostWished : ByteArray := prog_4_method_12_code
def yX2_layMostWished : MethodName := ⟨RX2, "layMostWished", "(LLostQuestions$Library;LLostQuestions$Row;)I"⟩
abbrev cX2_mostFrom : ByteArray := prog_4_method_13_code
def yX2_mostFrom : MethodName := ⟨RX2, "mostFrom", "(III)I"⟩
abbrev cX2_firstWished : ByteArray := prog_4_method_14_code
def yX2_firstWished : MethodName := ⟨RX2, "firstWished", "(III)I"⟩
def RX3 : String := "LostQuestions$Parting"
def TX3 : u_T := fun k => match k with
  | 0 => ("LostQuestions$Parting", "meaning", "[I", true)
  | 1 => ("LostQuestions$Parting", "cardsOf", "[I", true)
  | 2 => ("LostQuestions$Parting", "fewestOf", "[I", true)
  | 3 => ("LostQuestions$Parting", "best", "I", false)
  | 4 => ("LostQuestions$Parting", "fitting", "I", false)
  | 5 => ("LostQuestions$Parting", "fewest", "I", false)
  | _ => ("LostQuestions$Parting", "leastRank", "I", false)
def tyX3 : Nat → FieldType := fun k => match k with
  | 0 => .array .int
  | 1 => .array .int
  | 2 => .array .int
  | 3 => .int
  | 4 => .int
  | 5 => .int
  | _ => .int
abbrev wsX30 : List Cond := u_ws RX3 TX3 7
theorem nmX3 : ∀ a, a < 7 → ∀ b, b < 7 → a ≠ b → (TX3 a).2.1 ≠ (TX3 b).2.1 := by decide +kernel
theorem tyX3_ok : ∀ k, k < 7 → parseFieldDescriptor (TX3 k).2.2.1 = some (tyX3 k) := by decide +kernel
abbrev cX3_init : ByteArray := prog_5_method_1_code
def yX3_init : MethodName := ⟨RX3, "<init>", "()V"⟩
abbrev cX3_partBest : ByteArray := prog_5_method_2_code
def yX3_partBest : MethodName := ⟨RX3, "partBest", "(LLostQuestions$Library;)V"⟩
abbrev cX3_countMeanings : ByteArray := prog_5_method_3_code
def yX3_countMeanings : MethodName := ⟨RX3, "countMeanings", "(LLostQuestions$Library;I)V"⟩
abbrev cX3_partFrom : ByteArray := prog_5_method_4_code
def yX3_partFrom : MethodName := ⟨RX3, "partFrom", "(III)V"⟩
abbrev cX3_findIn : ByteArray := prog_5_method_5_code
def yX3_findIn : MethodName := ⟨RX3, "findIn", "(LLostQuestions$Library;I)V"⟩
abbrev cX3_fewestFor : ByteArray := prog_5_method_6_code
def yX3_fewestFor : MethodName := ⟨RX3, "fewestFor", "(II)I"⟩
def RX4 : String := "LostQuestions$Row"
def TX4 : u_T := fun k => match k with
  | 0 => ("LostQuestions$Row", "places", "[I", true)
  | _ => ("LostQuestions$Row", "size", "I", false)
def tyX4 : Nat → FieldType := fun k => match k with
  | 0 => .array .int
  | _ => .int
abbrev wsX40 : List Cond := u_ws RX4 TX4 2
theorem nmX4 : ∀ a, a < 2 → ∀ b, b < 2 → a ≠ b → (TX4 a).2.1 ≠ (TX4 b).2.1 := by decide +kernel
theorem tyX4_ok : ∀ k, k < 2 → parseFieldDescriptor (TX4 k).2.2.1 = some (tyX4 k) := by decide +kernel
abbrev cX4_init : ByteArray := prog_6_method_1_code
def yX4_init : MethodName := ⟨RX4, "<init>", "(I)V"⟩
abbrev cX4_isThere : ByteArray := prog_6_method_2_code
def yX4_isThere : MethodName := ⟨RX4, "isThere", "()Z"⟩
abbrev cX4_reaches : ByteArray := prog_6_method_3_code
def yX4_reaches : MethodName := ⟨RX4, "reaches", "(I)Z"⟩
abbrev cX4_holds : ByteArray := prog_6_method_4_code
def yX4_holds : MethodName := ⟨RX4, "holds", "(II)Z"⟩
abbrev cX4_begin : ByteArray := prog_6_method_5_code
def yX4_begin : MethodName := ⟨RX4, "begin", "(II)V"⟩
abbrev cX4_layAt : ByteArray := prog_6_method_6_code
def yX4_layAt : MethodName := ⟨RX4, "layAt", "(II)V"⟩
abbrev cX4_foldInto : ByteArray := prog_6_method_7_code
def yX4_foldInto : MethodName := ⟨RX4, "foldInto", "(J)J"⟩
def RX5 : String := "LostQuestions$Standing"
def TX5 : u_T := fun k => match k with
  | 0 => ("LostQuestions$Standing", "shelves", "[I", true)
  | 1 => ("LostQuestions$Standing", "ages", "[I", true)
  | 2 => ("LostQuestions$Standing", "truths", "[I", true)
  | 3 => ("LostQuestions$Standing", "cardOf", "[I", true)
  | 4 => ("LostQuestions$Standing", "taken", "[I", true)
  | 5 => ("LostQuestions$Standing", "cardsAhead", "[I", true)
  | _ => ("LostQuestions$Standing", "takings", "I", false)
def tyX5 : Nat → FieldType := fun k => match k with
  | 0 => .array .int
  | 1 => .array .int
  | 2 => .array .int
  | 3 => .array .int
  | 4 => .array .int
  | 5 => .array .int
  | _ => .int
abbrev wsX50 : List Cond := u_ws RX5 TX5 7
theorem nmX5 : ∀ a, a < 7 → ∀ b, b < 7 → a ≠ b → (TX5 a).2.1 ≠ (TX5 b).2.1 := by decide +kernel
theorem tyX5_ok : ∀ k, k < 7 → parseFieldDescriptor (TX5 k).2.2.1 = some (tyX5 k) := by decide +kernel
abbrev cX5_init : ByteArray := prog_7_method_1_code
def yX5_init : MethodName := ⟨RX5, "<init>", "()V"⟩
abbrev cX5_begin : ByteArray := prog_7_method_2_code
def yX5_begin : MethodName := ⟨RX5, "begin", "()V"⟩
abbrev cX5_questionOf : ByteArray := prog_7_method_3_code
def yX5_questionOf : MethodName := ⟨RX5, "questionOf", "(I)I"⟩
abbrev cX5_addTaking : ByteArray := prog_7_method_4_code
def yX5_addTaking : MethodName := ⟨RX5, "addTaking", "(II)V"⟩
abbrev cX5_goBack : ByteArray := prog_7_method_5_code
def yX5_goBack : MethodName := ⟨RX5, "goBack", "(I)I"⟩
abbrev cX5_become : ByteArray := prog_7_method_6_code
def yX5_become : MethodName := ⟨RX5, "become", "(LLostQuestions$Standing;)V"⟩
def RX6 : String := "LostQuestions"
def TX6 : u_T := fun k => match k with
  | 0 => ("LostQuestions", "rows", "[LLostQuestions$Row;", true)
  | 1 => ("LostQuestions", "texts", "[LLostQuestions$Row;", true)
  | 2 => ("LostQuestions", "kept", "[LLostQuestions$Standing;", true)
  | 3 => ("LostQuestions", "findingCounts", "[I", true)
  | 4 => ("LostQuestions", "matchings", "LLostQuestions$Matchings;", true)
  | 5 => ("LostQuestions", "parting", "LLostQuestions$Parting;", true)
  | 6 => ("LostQuestions", "here", "LLostQuestions$Library;", false)
  | 7 => ("LostQuestions", "draft", "LLostQuestions$Library;", false)
  | 8 => ("LostQuestions", "told", "I", false)
  | 9 => ("LostQuestions", "chanceUpper", "J", false)
  | 10 => ("LostQuestions", "chanceLower", "J", false)
  | _ => ("LostQuestions", "latestFinding", "I", false)
def tyX6 : Nat → FieldType := fun k => match k with
  | 0 => .array (.object "LostQuestions$Row")
  | 1 => .array (.object "LostQuestions$Row")
  | 2 => .array (.object "LostQuestions$Standing")
  | 3 => .array .int
  | 4 => .object "LostQuestions$Matchings"
  | 5 => .object "LostQuestions$Parting"
  | 6 => .object "LostQuestions$Library"
  | 7 => .object "LostQuestions$Library"
  | 8 => .int
  | 9 => .long
  | 10 => .long
  | _ => .int
abbrev wsX60 : List Cond := u_ws RX6 TX6 12
theorem nmX6 : ∀ a, a < 12 → ∀ b, b < 12 → a ≠ b → (TX6 a).2.1 ≠ (TX6 b).2.1 := by decide +kernel
theorem tyX6_ok : ∀ k, k < 12 → parseFieldDescriptor (TX6 k).2.2.1 = some (tyX6 k) := by decide +kernel
abbrev cX6_init : ByteArray := prog_1_method_1_code
def yX6_init : MethodName := ⟨RX6, "<init>", "()V"⟩
abbrev cX6_row : ByteArray := prog_1_method_2_code
def yX6_row : MethodName := ⟨RX6, "row", "(II)I"⟩
abbrev cX6_lay : ByteArray := prog_1_method_3_code
def yX6_lay : MethodName := ⟨RX6, "lay", "(III)I"⟩
abbrev cX6_at : ByteArray := prog_1_method_4_code
def yX6_at : MethodName := ⟨RX6, "at", "(II)I"⟩
abbrev cX6_tear : ByteArray := prog_1_method_5_code
def yX6_tear : MethodName := ⟨RX6, "tear", "(I)I"⟩
abbrev cX6_copy : ByteArray := prog_1_method_6_code
def yX6_copy : MethodName := ⟨RX6, "copy", "(IIIII)I"⟩
abbrev cX6_mean : ByteArray := prog_1_method_7_code
def yX6_mean : MethodName := ⟨RX6, "mean", "(I)I"⟩
abbrev cX6_text : ByteArray := prog_1_method_8_code
def yX6_text : MethodName := ⟨RX6, "text", "(II)I"⟩
abbrev cX6_put : ByteArray := prog_1_method_9_code
def yX6_put : MethodName := ⟨RX6, "put", "(III)I"⟩
abbrev cX6_fault : ByteArray := prog_1_method_10_code
def yX6_fault : MethodName := ⟨RX6, "fault", "(I)I"⟩
abbrev cX6_library : ByteArray := prog_1_method_11_code
def yX6_library : MethodName := ⟨RX6, "library", "(I)I"⟩
abbrev cX6_card : ByteArray := prog_1_method_12_code
def yX6_card : MethodName := ⟨RX6, "card", "(II)I"⟩
abbrev cX6_question : ByteArray := prog_1_method_13_code
def yX6_question : MethodName := ⟨RX6, "question", "(II)I"⟩
abbrev cX6_mark : ByteArray := prog_1_method_14_code
def yX6_mark : MethodName := ⟨RX6, "mark", "(II)I"⟩
abbrev cX6_shelve : ByteArray := prog_1_method_15_code
def yX6_shelve : MethodName := ⟨RX6, "shelve", "(II)I"⟩
abbrev cX6_age : ByteArray := prog_1_method_16_code
def yX6_age : MethodName := ⟨RX6, "age", "(II)I"⟩
abbrev cX6_truth : ByteArray := prog_1_method_17_code
def yX6_truth : MethodName := ⟨RX6, "truth", "(II)I"⟩
abbrev cX6_fits : ByteArray := prog_1_method_18_code
def yX6_fits : MethodName := ⟨RX6, "fits", "(I)I"⟩
abbrev cX6_take : ByteArray := prog_1_method_19_code
def yX6_take : MethodName := ⟨RX6, "take", "(II)I"⟩
abbrev cX6_bring : ByteArray := prog_1_method_20_code
def yX6_bring : MethodName := ⟨RX6, "bring", "(I)I"⟩
abbrev cX6_undo : ByteArray := prog_1_method_21_code
def yX6_undo : MethodName := ⟨RX6, "undo", "(I)I"⟩
abbrev cX6_right : ByteArray := prog_1_method_22_code
def yX6_right : MethodName := ⟨RX6, "right", "()I"⟩
abbrev cX6_keep : ByteArray := prog_1_method_23_code
def yX6_keep : MethodName := ⟨RX6, "keep", "(I)I"⟩
abbrev cX6_on : ByteArray := prog_1_method_24_code
def yX6_on : MethodName := ⟨RX6, "on", "(I)I"⟩
abbrev cX6_match : ByteArray := prog_1_method_25_code
def yX6_match : MethodName := ⟨RX6, "match", "(I)I"⟩
abbrev cX6_wished : ByteArray := prog_1_method_26_code
def yX6_wished : MethodName := ⟨RX6, "wished", "(I)I"⟩
abbrev cX6_fullest : ByteArray := prog_1_method_27_code
def yX6_fullest : MethodName := ⟨RX6, "fullest", "()I"⟩
abbrev cX6_may : ByteArray := prog_1_method_28_code
def yX6_may : MethodName := ⟨RX6, "may", "(I)I"⟩
abbrev cX6_sure : ByteArray := prog_1_method_29_code
def yX6_sure : MethodName := ⟨RX6, "sure", "(I)I"⟩
abbrev cX6_test : ByteArray := prog_1_method_30_code
def yX6_test : MethodName := ⟨RX6, "test", "()I"⟩
abbrev cX6_odds : ByteArray := prog_1_method_31_code
def yX6_odds : MethodName := ⟨RX6, "odds", "(II)I"⟩
abbrev cX6_worlds : ByteArray := prog_1_method_32_code
def yX6_worlds : MethodName := ⟨RX6, "worlds", "()I"⟩
abbrev cX6_never : ByteArray := prog_1_method_33_code
def yX6_never : MethodName := ⟨RX6, "never", "()I"⟩
abbrev cX6_parts : ByteArray := prog_1_method_34_code
def yX6_parts : MethodName := ⟨RX6, "parts", "()I"⟩
abbrev cX6_finds : ByteArray := prog_1_method_35_code
def yX6_finds : MethodName := ⟨RX6, "finds", "(I)I"⟩
abbrev cX6_left : ByteArray := prog_1_method_36_code
def yX6_left : MethodName := ⟨RX6, "left", "(I)I"⟩
abbrev cX6_forged : ByteArray := prog_1_method_37_code
def yX6_forged : MethodName := ⟨RX6, "forged", "()I"⟩
abbrev cX6_beside : ByteArray := prog_1_method_38_code
def yX6_beside : MethodName := ⟨RX6, "beside", "(I)I"⟩
abbrev cX6_habit : ByteArray := prog_1_method_39_code
def yX6_habit : MethodName := ⟨RX6, "habit", "()I"⟩
abbrev cX6_order : ByteArray := prog_1_method_40_code
def yX6_order : MethodName := ⟨RX6, "order", "()I"⟩
abbrev cX6_byAge : ByteArray := prog_1_method_41_code
def yX6_byAge : MethodName := ⟨RX6, "byAge", "(I)I"⟩
abbrev cX6_lots : ByteArray := prog_1_method_42_code
def yX6_lots : MethodName := ⟨RX6, "lots", "(II)I"⟩
abbrev cX6_asked : ByteArray := prog_1_method_43_code
def yX6_asked : MethodName := ⟨RX6, "asked", "()I"⟩
abbrev cX6_upper : ByteArray := prog_1_method_44_code
def yX6_upper : MethodName := ⟨RX6, "upper", "()J"⟩
abbrev cX6_lower : ByteArray := prog_1_method_45_code
def yX6_lower : MethodName := ⟨RX6, "lower", "()J"⟩
abbrev cX6_count : ByteArray := prog_1_method_46_code
def yX6_count : MethodName := ⟨RX6, "count", "(I)I"⟩
abbrev cX6_finding : ByteArray := prog_1_method_47_code
def yX6_finding : MethodName := ⟨RX6, "finding", "()I"⟩
abbrev cX6_findings : ByteArray := prog_1_method_48_code
def yX6_findings : MethodName := ⟨RX6, "findings", "(I)I"⟩
abbrev cX6_digest : ByteArray := prog_1_method_49_code
def yX6_digest : MethodName := ⟨RX6, "digest", "()J"⟩
abbrev cX6_found : ByteArray := prog_1_method_50_code
def yX6_found : MethodName := ⟨RX6, "found", "(I)I"⟩
abbrev cX6_tellChances : ByteArray := prog_1_method_51_code
def yX6_tellChances : MethodName := ⟨RX6, "tellChances", "(JJ)V"⟩
abbrev cX6_keptThere : ByteArray := prog_1_method_52_code
def yX6_keptThere : MethodName := ⟨RX6, "keptThere", "()I"⟩
abbrev cX6_thereAmong : ByteArray := prog_1_method_53_code
def yX6_thereAmong : MethodName := ⟨RX6, "thereAmong", "([LLostQuestions$Row;)I"⟩
abbrev cX6_greatestShared : ByteArray := prog_1_method_54_code
def yX6_greatestShared : MethodName := ⟨RX6, "greatestShared", "(JJ)J"⟩
abbrev cX6_isRow : ByteArray := prog_1_method_55_code
def yX6_isRow : MethodName := ⟨RX6, "isRow", "(I)Z"⟩
abbrev cX6_isText : ByteArray := prog_1_method_56_code
def yX6_isText : MethodName := ⟨RX6, "isText", "(I)Z"⟩
abbrev cX6_isPlaceKept : ByteArray := prog_1_method_57_code
def yX6_isPlaceKept : MethodName := ⟨RX6, "isPlaceKept", "(I)Z"⟩
def RX7 : String := "LostQuestionsModel"
def TX7 : u_T := fun k => match k with
  | 0 => ("LostQuestionsModel", "rowSizes", "[I", true)
  | 1 => ("LostQuestionsModel", "rows", "[I", true)
  | 2 => ("LostQuestionsModel", "textSizes", "[I", true)
  | 3 => ("LostQuestionsModel", "texts", "[I", true)
  | 4 => ("LostQuestionsModel", "now", "[I", true)
  | 5 => ("LostQuestionsModel", "keeps", "[I", true)
  | 6 => ("LostQuestionsModel", "kept", "[Z", true)
  | 7 => ("LostQuestionsModel", "asked", "I", false)
  | 8 => ("LostQuestionsModel", "upper", "J", false)
  | 9 => ("LostQuestionsModel", "lower", "J", false)
  | 10 => ("LostQuestionsModel", "finding", "I", false)
  | 11 => ("LostQuestionsModel", "findings", "[I", true)
  | 12 => ("LostQuestionsModel", "read", "[I", true)
  | 13 => ("LostQuestionsModel", "at", "I", false)
  | 14 => ("LostQuestionsModel", "chosen", "[I", true)
  | 15 => ("LostQuestionsModel", "best", "[I", true)
  | 16 => ("LostQuestionsModel", "within", "[I", true)
  | 17 => ("LostQuestionsModel", "all", "I", false)
  | 18 => ("LostQuestionsModel", "most", "I", false)
  | 19 => ("LostQuestionsModel", "asks", "[I", true)
  | _ => ("LostQuestionsModel", "firsts", "[I", true)
def tyX7 : Nat → FieldType := fun k => match k with
  | 0 => .array .int
  | 1 => .array .int
  | 2 => .array .int
  | 3 => .array .int
  | 4 => .array .int
  | 5 => .array .int
  | 6 => .array .boolean
  | 7 => .int
  | 8 => .long
  | 9 => .long
  | 10 => .int
  | 11 => .array .int
  | 12 => .array .int
  | 13 => .int
  | 14 => .array .int
  | 15 => .array .int
  | 16 => .array .int
  | 17 => .int
  | 18 => .int
  | 19 => .array .int
  | _ => .array .int
abbrev wsX70 : List Cond := u_ws RX7 TX7 21
theorem nmX7 : ∀ a, a < 21 → ∀ b, b < 21 → a ≠ b → (TX7 a).2.1 ≠ (TX7 b).2.1 := by decide +kernel
theorem tyX7_ok : ∀ k, k < 21 → parseFieldDescriptor (TX7 k).2.2.1 = some (tyX7 k) := by decide +kernel
abbrev cX7_init : ByteArray := prog_9_method_1_code
def yX7_init : MethodName := ⟨RX7, "<init>", "()V"⟩
abbrev cX7_in : ByteArray := prog_9_method_3_code
def yX7_in : MethodName := ⟨RX7, "in", "(JJJ)Z"⟩
abbrev cX7_found : ByteArray := prog_9_method_4_code
def yX7_found : MethodName := ⟨RX7, "found", "(I)I"⟩
abbrev cX7_tell : ByteArray := prog_9_method_5_code
def yX7_tell : MethodName := ⟨RX7, "tell", "(I)I"⟩
abbrev cX7_isRow : ByteArray := prog_9_method_6_code
def yX7_isRow : MethodName := ⟨RX7, "isRow", "(I)Z"⟩
abbrev cX7_isText : ByteArray := prog_9_method_7_code
def yX7_isText : MethodName := ⟨RX7, "isText", "(I)Z"⟩
abbrev cX7_row : ByteArray := prog_9_method_8_code
def yX7_row : MethodName := ⟨RX7, "row", "(II)I"⟩
abbrev cX7_lay : ByteArray := prog_9_method_9_code
def yX7_lay : MethodName := ⟨RX7, "lay", "(III)I"⟩
abbrev cX7_at : ByteArray := prog_9_method_10_code
def yX7_at : MethodName := ⟨RX7, "at", "(II)I"⟩
abbrev cX7_tear : ByteArray := prog_9_method_11_code
def yX7_tear : MethodName := ⟨RX7, "tear", "(I)I"⟩
abbrev cX7_copy : ByteArray := prog_9_method_12_code
def yX7_copy : MethodName := ⟨RX7, "copy", "(IIIII)I"⟩
abbrev cX7_mean : ByteArray := prog_9_method_13_code
def yX7_mean : MethodName := ⟨RX7, "mean", "(I)I"⟩
abbrev cX7_text : ByteArray := prog_9_method_14_code
def yX7_text : MethodName := ⟨RX7, "text", "(II)I"⟩
abbrev cX7_put : ByteArray := prog_9_method_15_code
def yX7_put : MethodName := ⟨RX7, "put", "(III)I"⟩
abbrev cX7_kindOf : ByteArray := prog_9_method_16_code
def yX7_kindOf : MethodName := ⟨RX7, "kindOf", "(I)I"⟩
abbrev cX7_byteAt : ByteArray := prog_9_method_17_code
def yX7_byteAt : MethodName := ⟨RX7, "byteAt", "(I)I"⟩
abbrev cX7_takes : ByteArray := prog_9_method_18_code
def yX7_takes : MethodName := ⟨RX7, "takes", "(IIII)Z"⟩
abbrev cX7_takesCard : ByteArray := prog_9_method_19_code
def yX7_takesCard : MethodName := ⟨RX7, "takesCard", "(I)Z"⟩
abbrev cX7_takesQuestion : ByteArray := prog_9_method_20_code
def yX7_takesQuestion : MethodName := ⟨RX7, "takesQuestion", "(I)Z"⟩
abbrev cX7_reads : ByteArray := prog_9_method_21_code
def yX7_reads : MethodName := ⟨RX7, "reads", "(I)I"⟩
abbrev cX7_fault : ByteArray := prog_9_method_22_code
def yX7_fault : MethodName := ⟨RX7, "fault", "(I)I"⟩
abbrev cX7_copies : ByteArray := prog_9_method_23_code
def yX7_copies : MethodName := ⟨RX7, "copies", "([II[II)V"⟩
abbrev cX7_library : ByteArray := prog_9_method_24_code
def yX7_library : MethodName := ⟨RX7, "library", "(I)I"⟩
abbrev cX7_isCard : ByteArray := prog_9_method_25_code
def yX7_isCard : MethodName := ⟨RX7, "isCard", "(I)Z"⟩
abbrev cX7_isQuestion : ByteArray := prog_9_method_26_code
def yX7_isQuestion : MethodName := ⟨RX7, "isQuestion", "(I)Z"⟩
abbrev cX7_isOf : ByteArray := prog_9_method_27_code
def yX7_isOf : MethodName := ⟨RX7, "isOf", "(II)Z"⟩
abbrev cX7_means : ByteArray := prog_9_method_28_code
def yX7_means : MethodName := ⟨RX7, "means", "(I)I"⟩
abbrev cX7_suits : ByteArray := prog_9_method_29_code
def yX7_suits : MethodName := ⟨RX7, "suits", "(IIII)Z"⟩
abbrev cX7_isFit : ByteArray := prog_9_method_30_code
def yX7_isFit : MethodName := ⟨RX7, "isFit", "(II)Z"⟩
abbrev cX7_answers : ByteArray := prog_9_method_31_code
def yX7_answers : MethodName := ⟨RX7, "answers", "(I)I"⟩
abbrev cX7_toldCard : ByteArray := prog_9_method_32_code
def yX7_toldCard : MethodName := ⟨RX7, "toldCard", "(II)I"⟩
abbrev cX7_card : ByteArray := prog_9_method_33_code
def yX7_card : MethodName := ⟨RX7, "card", "(II)I"⟩
abbrev cX7_question : ByteArray := prog_9_method_34_code
def yX7_question : MethodName := ⟨RX7, "question", "(II)I"⟩
abbrev cX7_mark : ByteArray := prog_9_method_35_code
def yX7_mark : MethodName := ⟨RX7, "mark", "(II)I"⟩
abbrev cX7_puts : ByteArray := prog_9_method_36_code
def yX7_puts : MethodName := ⟨RX7, "puts", "(II)I"⟩
abbrev cX7_shelve : ByteArray := prog_9_method_37_code
def yX7_shelve : MethodName := ⟨RX7, "shelve", "(II)I"⟩
abbrev cX7_age : ByteArray := prog_9_method_38_code
def yX7_age : MethodName := ⟨RX7, "age", "(II)I"⟩
abbrev cX7_truth : ByteArray := prog_9_method_39_code
def yX7_truth : MethodName := ⟨RX7, "truth", "(II)I"⟩
abbrev cX7_fits : ByteArray := prog_9_method_40_code
def yX7_fits : MethodName := ⟨RX7, "fits", "(I)I"⟩
abbrev cX7_isFreeCard : ByteArray := prog_9_method_41_code
def yX7_isFreeCard : MethodName := ⟨RX7, "isFreeCard", "(I)Z"⟩
abbrev cX7_isFree : ByteArray := prog_9_method_42_code
def yX7_isFree : MethodName := ⟨RX7, "isFree", "(I)Z"⟩
abbrev cX7_takesIt : ByteArray := prog_9_method_43_code
def yX7_takesIt : MethodName := ⟨RX7, "takesIt", "(II)V"⟩
abbrev cX7_stands : ByteArray := prog_9_method_44_code
def yX7_stands : MethodName := ⟨RX7, "stands", "(I)I"⟩
abbrev cX7_take : ByteArray := prog_9_method_45_code
def yX7_take : MethodName := ⟨RX7, "take", "(II)I"⟩
abbrev cX7_bring : ByteArray := prog_9_method_46_code
def yX7_bring : MethodName := ⟨RX7, "bring", "(I)I"⟩
abbrev cX7_undo : ByteArray := prog_9_method_47_code
def yX7_undo : MethodName := ⟨RX7, "undo", "(I)I"⟩
abbrev cX7_standing : ByteArray := prog_9_method_48_code
def yX7_standing : MethodName := ⟨RX7, "standing", "(I)I"⟩
abbrev cX7_right : ByteArray := prog_9_method_49_code
def yX7_right : MethodName := ⟨RX7, "right", "()I"⟩
abbrev cX7_keep : ByteArray := prog_9_method_50_code
def yX7_keep : MethodName := ⟨RX7, "keep", "(I)I"⟩
abbrev cX7_on : ByteArray := prog_9_method_51_code
def yX7_on : MethodName := ⟨RX7, "on", "(I)I"⟩
abbrev cX7_mayMatch : ByteArray := prog_9_method_52_code
def yX7_mayMatch : MethodName := ⟨RX7, "mayMatch", "(II)Z"⟩
abbrev cX7_layMatchings : ByteArray := prog_9_method_53_code
def yX7_layMatchings : MethodName := ⟨RX7, "layMatchings", "(Z)V"⟩
abbrev cX7_counts : ByteArray := prog_9_method_54_code
def yX7_counts : MethodName := ⟨RX7, "counts", "(I)V"⟩
abbrev cX7_laid : ByteArray := prog_9_method_55_code
def yX7_laid : MethodName := ⟨RX7, "laid", "(I)I"⟩
abbrev cX7_match : ByteArray := prog_9_method_56_code
def yX7_match : MethodName := ⟨RX7, "match", "(I)I"⟩
abbrev cX7_wished : ByteArray := prog_9_method_57_code
def yX7_wished : MethodName := ⟨RX7, "wished", "(I)I"⟩
abbrev cX7_fullest : ByteArray := prog_9_method_58_code
def yX7_fullest : MethodName := ⟨RX7, "fullest", "()I"⟩
abbrev cX7_may : ByteArray := prog_9_method_59_code
def yX7_may : MethodName := ⟨RX7, "may", "(I)I"⟩
abbrev cX7_sure : ByteArray := prog_9_method_60_code
def yX7_sure : MethodName := ⟨RX7, "sure", "(I)I"⟩
abbrev cX7_test : ByteArray := prog_9_method_61_code
def yX7_test : MethodName := ⟨RX7, "test", "()I"⟩
abbrev cX7_odds : ByteArray := prog_9_method_62_code
def yX7_odds : MethodName := ⟨RX7, "odds", "(II)I"⟩
abbrev cX7_worlds : ByteArray := prog_9_method_63_code
def yX7_worlds : MethodName := ⟨RX7, "worlds", "()I"⟩
abbrev cX7_never : ByteArray := prog_9_method_64_code
def yX7_never : MethodName := ⟨RX7, "never", "()I"⟩
abbrev cX7_manyFit : ByteArray := prog_9_method_65_code
def yX7_manyFit : MethodName := ⟨RX7, "manyFit", "(III)I"⟩
abbrev cX7_parts : ByteArray := prog_9_method_66_code
def yX7_parts : MethodName := ⟨RX7, "parts", "()I"⟩
abbrev cX7_isOne : ByteArray := prog_9_method_67_code
def yX7_isOne : MethodName := ⟨RX7, "isOne", "(I)Z"⟩
abbrev cX7_finds : ByteArray := prog_9_method_68_code
def yX7_finds : MethodName := ⟨RX7, "finds", "(I)I"⟩
abbrev cX7_left : ByteArray := prog_9_method_69_code
def yX7_left : MethodName := ⟨RX7, "left", "(I)I"⟩
abbrev cX7_forged : ByteArray := prog_9_method_70_code
def yX7_forged : MethodName := ⟨RX7, "forged", "()I"⟩
abbrev cX7_lesser : ByteArray := prog_9_method_71_code
def yX7_lesser : MethodName := ⟨RX7, "lesser", "(II)I"⟩
abbrev cX7_manyThere : ByteArray := prog_9_method_72_code
def yX7_manyThere : MethodName := ⟨RX7, "manyThere", "(III)I"⟩
abbrev cX7_manyHere : ByteArray := prog_9_method_73_code
def yX7_manyHere : MethodName := ⟨RX7, "manyHere", "(II)I"⟩
abbrev cX7_beside : ByteArray := prog_9_method_74_code
def yX7_beside : MethodName := ⟨RX7, "beside", "(I)I"⟩
abbrev cX7_lying : ByteArray := prog_9_method_75_code
def yX7_lying : MethodName := ⟨RX7, "lying", "(II)I"⟩
abbrev cX7_habit : ByteArray := prog_9_method_76_code
def yX7_habit : MethodName := ⟨RX7, "habit", "()I"⟩
abbrev cX7_order : ByteArray := prog_9_method_77_code
def yX7_order : MethodName := ⟨RX7, "order", "()I"⟩
abbrev cX7_byAge : ByteArray := prog_9_method_78_code
def yX7_byAge : MethodName := ⟨RX7, "byAge", "(I)I"⟩
abbrev cX7_lots : ByteArray := prog_9_method_79_code
def yX7_lots : MethodName := ⟨RX7, "lots", "(II)I"⟩
abbrev cX7_asked : ByteArray := prog_9_method_80_code
def yX7_asked : MethodName := ⟨RX7, "asked", "()I"⟩
abbrev cX7_upper : ByteArray := prog_9_method_81_code
def yX7_upper : MethodName := ⟨RX7, "upper", "()J"⟩
abbrev cX7_lower : ByteArray := prog_9_method_82_code
def yX7_lower : MethodName := ⟨RX7, "lower", "()J"⟩
abbrev cX7_counted : ByteArray := prog_9_method_83_code
def yX7_counted : MethodName := ⟨RX7, "counted", "(I)I"⟩
abbrev cX7_count : ByteArray := prog_9_method_84_code
def yX7_count : MethodName := ⟨RX7, "count", "(I)I"⟩
abbrev cX7_finding : ByteArray := prog_9_method_85_code
def yX7_finding : MethodName := ⟨RX7, "finding", "()I"⟩
abbrev cX7_findings : ByteArray := prog_9_method_86_code
def yX7_findings : MethodName := ⟨RX7, "findings", "(I)I"⟩
abbrev cX7_digest : ByteArray := prog_9_method_87_code
def yX7_digest : MethodName := ⟨RX7, "digest", "()J"⟩
def RJ6 : String := "java/lang/Integer"
abbrev cJ6_bitCount_0f7a4 : ByteArray := prog_10_method_49_code
def yJ6_bitCount_0f7a4 : MethodName := ⟨RJ6, "bitCount", "(I)I"⟩
def RJ9 : String := "java/lang/Math"
abbrev cJ9_abs_0f7a4 : ByteArray := prog_11_method_59_code
def yJ9_abs_0f7a4 : MethodName := ⟨RJ9, "abs", "(I)I"⟩
abbrev cJ9_max_7cf53 : ByteArray := prog_11_method_65_code
def yJ9_max_7cf53 : MethodName := ⟨RJ9, "max", "(II)I"⟩
abbrev cJ9_min_7cf53 : ByteArray := prog_11_method_69_code
def yJ9_min_7cf53 : MethodName := ⟨RJ9, "min", "(II)I"⟩
def RJ10 : String := "java/lang/System"
def RJ7 : String := "java/util/Arrays"
abbrev cJ7_fill_53178 : ByteArray := prog_13_method_103_code
def yJ7_fill_53178 : MethodName := ⟨RJ7, "fill", "([II)V"⟩
def RL : String := "LostQuestionsLaw"
abbrev cL_law : ByteArray := code
def yL_law : MethodName := ⟨RL, "law", "([I)Z"⟩
abbrev vwCl : List vw_C := [(RX1, TX1, 9), (RX2, TX2, 8), (RX3, TX3, 7), (RX4, TX4, 2), (RX5, TX5, 7), (RX6, TX6, 12), (RX7, TX7, 21)]
theorem inX1 : ∀ w ∈ wsX10, w ∈ lw_tbl := by decide +kernel
theorem inX2 : ∀ w ∈ wsX20, w ∈ lw_tbl := by decide +kernel
theorem inX3 : ∀ w ∈ wsX30, w ∈ lw_tbl := by decide +kernel
theorem inX4 : ∀ w ∈ wsX40, w ∈ lw_tbl := by decide +kernel
theorem inX5 : ∀ w ∈ wsX50, w ∈ lw_tbl := by decide +kernel
theorem inX6 : ∀ w ∈ wsX60, w ∈ lw_tbl := by decide +kernel
theorem inX7 : ∀ w ∈ wsX70, w ∈ lw_tbl := by decide +kernel
end
section
/-! The abstract machine: cells by number, typed contents; 'Go' is the kit's W over every concrete state that holds the abstract one. -/
def lw_g : List Cond := lw_tbl.filter goodWord
def am_nest : Cond → Bool
  | .fieldLinkNest .. => true
  | .methodLinkNest .. => true
  | _ => false
def lw_n : List Cond := lw_tbl.filter am_nest
/-- contents: ints, longs, references (numbers of cells), by cell and place -/
abbrev aSt : Type := (Nat → Nat → Int32) × (Nat → Nat → Int64) × (Nat → Nat → Option Nat)
/-- the run's constants: the heap at the law's entry, the script's address, the letters' address, the script's length and ints, classes, array classes -/
abbrev aG : Type := Heap × Nat × Nat × Nat × (Nat → Int32) × va_G × (ClassId × ClassId × ClassId × ClassId)
abbrev gB (G : aG) : Nat := G.1.size
abbrev gD (G : aG) : va_G := G.2.2.2.2.2.1
abbrev gC (G : aG) : ClassId × ClassId × ClassId × ClassId := G.2.2.2.2.2.2
/-- a method: code, locals, answer's type, class, name -/
abbrev aM : Type := ByteArray × Nat × Option FieldType × String × String
def qa (G : aG) (k : Nat) : Nat := if k = 1000 then G.2.1 else if k = 1001 then G.2.2.1 else gB G + k
/-- what each cell is: a class's number (0 to 6), or 7 ints, 8 booleans, 9 Rows, 10 Standings; how many places -/
def SHl : List (Nat × Nat) := [(5, 0), (9, 6), (9, 4), (10, 3), (7, 6), (1, 0), (7, 7), (7, 1024), (7, 1024), (2, 0), (7, 10), (7, 7), (7, 128), (0, 0), (7, 7), (7, 7), (7, 7), (7, 7), (7, 7), (7, 7), (4, 0), (7, 7), (7, 7), (7, 7), (7, 7), (7, 40), (7, 280), (0, 0), (7, 7), (7, 7), (7, 7), (7, 7), (7, 7), (7, 7), (4, 0), (7, 7), (7, 7), (7, 7), (7, 7), (7, 40), (7, 280), (3, 0), (7, 40), (3, 0), (7, 40), (3, 0), (7, 40), (3, 0), (7, 40), (3, 0), (7, 40), (3, 0), (7, 40), (3, 0), (7, 80), (3, 0), (7, 80), (3, 0), (7, 80), (3, 0), (7, 80), (4, 0), (7, 7), (7, 7), (7, 7), (7, 7), (7, 40), (7, 280), (4, 0), (7, 7), (7, 7), (7, 7), (7, 7), (7, 40), (7, 280), (4, 0), (7, 7), (7, 7), (7, 7), (7, 7), (7, 40), (7, 280), (6, 0), (7, 6), (7, 240), (7, 4), (7, 320), (7, 393), (7, 1179), (8, 3), (7, 6), (7, 393), (7, 7), (7, 7), (7, 49), (7, 128), (7, 128)]
def SH (k : Nat) : Nat × Nat := SHl.getD k (99, 0)
def ftys (c : Nat) : List Nat := match c with
  | 0 => [2, 2, 2, 2, 2, 2, 2, 0, 0]
  | 1 => [2, 2, 2, 0, 0, 0, 0, 0]
  | 2 => [2, 2, 2, 0, 0, 0, 0]
  | 3 => [2, 0]
  | 4 => [2, 2, 2, 2, 2, 2, 0]
  | 5 => [2, 2, 2, 2, 2, 2, 2, 2, 0, 1, 1, 0]
  | 6 => [2, 2, 2, 2, 2, 2, 2, 0, 1, 1, 0, 2, 2, 0, 2, 2, 2, 0, 0, 2, 2]
  | _ => []
def am_fv (G : aG) (S : aSt) (k j ty : Nat) : Value := match ty with
  | 0 => .int (S.1 k j)
  | 1 => .long (S.2.1 k j)
  | _ => va_rf ((S.2.2 k j).map (qa G))
def am_fs (G : aG) (S : aSt) (k : Nat) : List Value := (List.range (ftys (SH k).1).length).map (fun j => am_fv G S k j ((ftys (SH k).1).getD j 0))
def am_cE (G : aG) (S : aSt) (k : Nat) : va_E := match (SH k).1 with
  | 7 => .inl ((gC G).1, (SH k).2, .inl (S.1 k))
  | 8 => .inl ((gC G).2.1, (SH k).2, .inl (S.1 k))
  | 9 => .inl ((gC G).2.2.1, (SH k).2, .inr (.inr (.inr (.inr (fun i => (S.2.2 k i).map (qa G))))))
  | 10 => .inl ((gC G).2.2.2, (SH k).2, .inr (.inr (.inr (.inr (fun i => (S.2.2 k i).map (qa G))))))
  | c => .inr (c, am_fs G S k)
def aws (G : aG) (n : Nat) (S : aSt) : va_W := (List.range n).map (fun k => (gB G + k, am_cE G S k))
def aty (G : aG) : List (ClassId × FieldType) := [((gC G).1, .int), ((gC G).2.1, .boolean), ((gC G).2.2.1, .object "LostQuestions$Row"), ((gC G).2.2.2, .object "LostQuestions$Standing")]
abbrev gA (G : aG) : Nat → Prop := fun a => gB G ≤ a
def am_let : Nat → Int32 := fun j => match j with
  | 0 => 110
  | 1 => 121
  | 2 => 112
  | 3 => 118
  | 4 => 116
  | _ => 98
def aW (G : aG) (n : Nat) (S : aSt) (H : Heap) : Prop := n ≤ 100 ∧ va_P (gD G) vwCl (aws G n S) H ∧ ∀ a, a < gB G → H[a]? = G.1[a]?
def aK (G : aG) (s : State) : Prop := va_K (gD G) vwCl (aty G) s ∧ (∀ w ∈ lw_n, va_Nw w s) ∧ va_AO "LostQuestions$Row" s ∧ va_AO "LostQuestions$Standing" s ∧ va_X G.2.1 G.2.2.2.1 G.2.2.2.2.1 s G.1 ∧ va_Z "LostQuestions$Kinds" "LETTERS" "[I" (.ref G.2.2.1) (gA G) s G.1 ∧ va_T .int G.2.2.1 6 (fun j => .int (am_let j)) (gA G) s G.1
def cV (G : aG) (v : Value) : Value := match v with
  | .ref k => .ref (qa G k)
  | w => w
def cL (G : aG) (q : Nat × Value) : Nat × Value := (q.1, cV G q.2)
theorem cV_cat (G : aG) (v : Value) : (cV G v).category = v.category := by cases v <;> rfl
theorem aK.moved {G : aG} {s U : State} (hW : s.WarmedH U.vm) (h : aK G s) : aK G U := by
  obtain ⟨h1, h2, h3, h4, h5, h6, h7⟩ := h
  refine ⟨h1.moved hW.alike, fun w hw => ?_, h3.moved hW.alike, h4.moved hW.alike, h5.moved hW.alike, h6.moved hW.alike, h7.moved hW.alike⟩
  have hz := h2 w hw
  have hn : am_nest w = true := (List.mem_filter.mp hw).2
  cases w <;> simp [am_nest] at hn
  · exact va_Nw.warmM hW hz
  · exact va_Nw.warmF hW hz
theorem aws_len (G : aG) (n : Nat) (S : aSt) : (aws G n S).length = n := by simp [aws]
theorem aws_get {G : aG} {n : Nat} {S : aSt} {k : Nat} (h : k < n) : (aws G n S)[k]? = some (gB G + k, am_cE G S k) := by
  simp [aws, h]
theorem aws_some {G : aG} {n : Nat} {S : aSt} {k : Nat} {q : Nat × va_E} (h : (aws G n S)[k]? = some q) : k < n ∧ q = (gB G + k, am_cE G S k) := by
  have hk : k < n := by have := (List.getElem?_eq_some_iff.mp h).1; simpa [aws_len] using this
  rw [aws_get hk] at h
  exact ⟨hk, (Option.some.inj h).symm⟩
theorem aws_D (G : aG) (n : Nat) (S : aSt) : va_D (gA G) (aws G n S) := by
  refine ⟨fun i j p q hi hj h => ?_, fun k q hk => ?_⟩
  · obtain ⟨-, rfl⟩ := aws_some hi
    obtain ⟨-, rfl⟩ := aws_some hj
    simpa using h
  · obtain ⟨-, rfl⟩ := aws_some hk
    exact Nat.le_add_right _ _
theorem aws_set {G : aG} {n : Nat} {S S' : aSt} {k : Nat} {e : va_E} (he : am_cE G S' k = e) (ho : ∀ j, j ≠ k → am_cE G S' j = am_cE G S j) : (aws G n S).set k (gB G + k, e) = aws G n S' := by
  apply List.ext_getElem?
  intro j
  by_cases hjk : j = k
  · subst hjk
    by_cases hj : j < n
    · rw [List.getElem?_set_self (by rw [aws_len]; exact hj), aws_get hj, he]
    · rw [List.getElem?_eq_none (by rw [List.length_set, aws_len]; omega), List.getElem?_eq_none (by rw [aws_len]; omega)]
  · rw [List.getElem?_set_ne (Ne.symm hjk)]
    by_cases hj : j < n
    · rw [aws_get hj, aws_get hj, ho j hjk]
    · rw [List.getElem?_eq_none (by rw [aws_len]; omega), List.getElem?_eq_none (by rw [aws_len]; omega)]
theorem am_cE_congr {G : aG} {S S' : aSt} {j : Nat} (h1 : S'.1 j = S.1 j) (h2 : S'.2.1 j = S.2.1 j) (h3 : S'.2.2 j = S.2.2 j) : am_cE G S' j = am_cE G S j := by
  have hf : am_fs G S' j = am_fs G S j := by
    unfold am_fs am_fv
    rw [h1, h2, h3]
  unfold am_cE
  rw [h1, h3, hf]
theorem qa_own {G : aG} {k : Nat} (h : k < 1000) : qa G k = gB G + k := by
  unfold qa
  rw [if_neg (by omega), if_neg (by omega)]
/-- a write of an int, a long, a reference -/
def stI (S : aSt) (k j : Nat) (v : Int32) : aSt := (fun a => if a = k then upd (S.1 k) j v else S.1 a, S.2)
def stL (S : aSt) (k j : Nat) (v : Int64) : aSt := (S.1, fun a => if a = k then vp_updL (S.2.1 k) j v else S.2.1 a, S.2.2)
def stR (S : aSt) (k j : Nat) (v : Option Nat) : aSt := (S.1, S.2.1, fun a => if a = k then va_up (S.2.2 k) j v else S.2.2 a)
/-- a whole row -/
def stRow (S : aSt) (k : Nat) (f : Nat → Int32) : aSt := (fun a => if a = k then f else S.1 a, S.2)
theorem stI_row (S : aSt) (k j : Nat) (v : Int32) : stI S k j v = stRow S k (upd (S.1 k) j v) := rfl
theorem stI_self (S : aSt) (k j : Nat) (v : Int32) : (stI S k j v).1 k = upd (S.1 k) j v := by simp [stI]
theorem stI_ne {S : aSt} {k j a : Nat} {v : Int32} (h : a ≠ k) : (stI S k j v).1 a = S.1 a := by simp [stI, h]
def inb (i : Int32) (n : Nat) : Bool := !(decide (i < 0) || decide (n ≤ i.toNatClampNeg))
theorem inb_in {i : Int32} {n : Nat} (h : inb i n = true) : vp_in i n := by
  simp [inb] at h
  intro q
  rcases q with q | q
  · exact absurd q (by simpa using h.1)
  · omega
/-- the parts of the functions that the code is read as -/
def grd {α : Type} (b : Bool) (x : Option α) : Option α := if b then x else none
def nm {α β : Type} (x : α) (f : α → Option β) : Option β := f x
def jn {α β : Type} (f : α) (g : α → Option β) : Option β := g f
def isT (k t : Nat) : Bool := decide (k < 97) && decide ((SH k).1 = t)
/-- a reference that is read: not null, of its kind -/
def rfd {β : Type} (o : Option Nat) (t : Nat) (f : Nat → Option β) : Option β := match o with
  | some k => if isT k t then f k else none
  | none => none
theorem f_grd {α : Type} {b : Bool} {x : Option α} {r : α} (h : grd b x = some r) : b = true ∧ x = some r := by
  unfold grd at h
  cases b
  · simp at h
  · exact ⟨rfl, by simpa using h⟩
theorem f_nm {α β : Type} {x : α} {f : α → Option β} {r : β} (h : nm x f = some r) : ∃ z, z = x ∧ f z = some r := ⟨x, rfl, h⟩
theorem f_jn {α β : Type} {f : α} {g : α → Option β} {r : β} (h : jn f g = some r) : ∃ z, z = f ∧ g z = some r := ⟨f, rfl, h⟩
theorem f_rfd {β : Type} {o : Option Nat} {t : Nat} {f : Nat → Option β} {r : β} (h : rfd o t f = some r) : ∃ k, o = some k ∧ isT k t = true ∧ f k = some r := by
  cases o with
  | none => cases h
  | some k =>
    unfold rfd at h
    dsimp only at h
    by_cases hk : isT k t = true
    · rw [if_pos hk] at h
      exact ⟨k, rfl, hk, h⟩
    · rw [if_neg hk] at h
      cases h
theorem f_bnd {α β : Type} {o : Option α} {f : α → Option β} {r : β} (h : o.bind f = some r) : ∃ z, o = some z ∧ f z = some r := by
  cases o with
  | none => cases h
  | some z => exact ⟨z, rfl, h⟩
theorem f_if {α : Type} {c : Prop} [Decidable c] {x y : Option α} {r : α} (h : (if c then x else y) = some r) (hc : c) : x = some r := by rw [if_pos hc] at h; exact h
theorem f_el {α : Type} {c : Prop} [Decidable c] {x y : Option α} {r : α} (h : (if c then x else y) = some r) (hc : ¬ c) : y = some r := by rw [if_neg hc] at h; exact h
theorem isT_lt {k t : Nat} (h : isT k t = true) : k < 97 := by simp [isT] at h; exact h.1
theorem isT_sh {k t : Nat} (h : isT k t = true) : (SH k).1 = t := by simp [isT] at h; exact h.2
end
section
/-! The judgement 'Go' and its rows: one an instruction. -/
/-- what holds in a method's frame: the machine, its code, its words, the run's constants -/
def aC (G : aG) (M : aM) (p : Program) (s : State) (m : MethodId) (args : Array Value) (meth : Method) (c : Code) : Prop :=
  p.tables.exec = Jvm.exec ∧ c.code = M.1 ∧ c.maxLocals = M.2.1 ∧ meth.sig.returnType = M.2.2.1 ∧ s.vm.findClass M.2.2.2.1 = some m.cls ∧ meth.name = M.2.2.2.2 ∧ meth.locks = false ∧ (∀ w ∈ lw_g, w.before args s = true) ∧ aK G s ∧ ∀ a, a < gB G → s.heap[a]? = G.1[a]?
def Go (G : aG) (l : Launch) (R : Room) (Tm : List Frame → Array Value → State → State → Prop) (M : aM) (n cells slots : Nat) (pc : Nat) (lv : List (Nat × Value)) (st : List Value) (S : aSt) : Prop :=
  ∀ (p : Program) (e : Env) (s : State) (m : MethodId) (args : Array Value) (below : List Frame) (meth : Method) (c : Code) (H : Heap) (locs : List Loc) (ls : Array Slot),
    aC G M p s m args meth c → s.heap.size + cells = gB G + n → va_S (gA G) s.heap H locs → aW G n S H → lv_has ls M.2.1 (lv.map (cL G)) → W p l e R s m args below meth c H locs cells slots (Tm below args s) (F0 m pc ls (st.map (cV G)))
section GO
variable {G : aG} {l : Launch} {R : Room} {Tm : List Frame → Array Value → State → State → Prop} {M : aM} {n cells slots pc : Nat} {lv : List (Nat × Value)} {st : List Value} {S : aSt}
theorem am_at {ls : Array Slot} {nL : Nat} {lv : List (Nat × Value)} {G : aG} (h : lv_has ls nL (lv.map (cL G))) (j : Nat) {i : Nat} {v : Value} (hj : lv[j]? = some (i, v)) : ls[i]? = some (.val (cV G v)) :=
  lv_at h j (by rw [List.getElem?_map, hj]; rfl)
theorem am_filter (G : aG) (i : Nat) (lv : List (Nat × Value)) : (lv.map (cL G)).filter (fun q => !(q.1 == i) && !(q.1 + 1 == i && q.2.category == 2)) = (lv.filter (fun q => !(q.1 == i) && !(q.1 + 1 == i && q.2.category == 2))).map (cL G) := by
  rw [List.filter_map]
  congr 1
  apply List.filter_congr
  intro q _
  simp [cL, cV_cat]
theorem am_filterL (G : aG) (i : Nat) (lv : List (Nat × Value)) : (lv.map (cL G)).filter (fun q => !(q.1 == i) && (!(q.1 == i + 1) && !(q.1 + 1 == i && q.2.category == 2))) = (lv.filter (fun q => !(q.1 == i) && (!(q.1 == i + 1) && !(q.1 + 1 == i && q.2.category == 2)))).map (cL G) := by
  rw [List.filter_map]
  congr 1
  apply List.filter_congr
  intro q _
  simp [cL, cV_cat]

theorem Go.iload_n {i : Fin 4} {x : Int32} (j : Nat) (pc' : Nat) (hp : pc + 1 = pc') (hd : decode M.1 pc = .ok (.iload_n i, 1)) (hj : lv[j]? = some ((i : Nat), .int x)) (k : Go G l R Tm M n cells slots pc' lv (.int x :: st) S) : Go G l R Tm M n cells slots pc lv (st) S := by
  subst hp
  intro p e s m args below meth c H locs ls C hn hS hW hl
  exact lv_iload_n C.1 C.2.1 hd rfl (am_at hl j hj) (k p e s m args below meth c H locs ls C hn hS hW hl)

theorem Go.iload {i : Nat} {x : Int32} (j : Nat) (pc' : Nat) (hp : pc + 2 = pc') (hd : decode M.1 pc = .ok (.iload i, 2)) (hj : lv[j]? = some (i, .int x)) (k : Go G l R Tm M n cells slots pc' lv (.int x :: st) S) : Go G l R Tm M n cells slots pc lv (st) S := by
  subst hp
  intro p e s m args below meth c H locs ls C hn hS hW hl
  exact lv_iload C.1 C.2.1 hd (am_at hl j hj) (k p e s m args below meth c H locs ls C hn hS hW hl)

theorem Go.lload_n {i : Fin 4} {x : Int64} (j : Nat) (pc' : Nat) (hp : pc + 1 = pc') (hd : decode M.1 pc = .ok (.lload_n i, 1)) (hj : lv[j]? = some ((i : Nat), .long x)) (k : Go G l R Tm M n cells slots pc' lv (.long x :: st) S) : Go G l R Tm M n cells slots pc lv (st) S := by
  subst hp
  intro p e s m args below meth c H locs ls C hn hS hW hl
  exact lv_lload_n C.1 C.2.1 hd rfl (am_at hl j hj) (k p e s m args below meth c H locs ls C hn hS hW hl)

theorem Go.lload {i : Nat} {x : Int64} (j : Nat) (pc' : Nat) (hp : pc + 2 = pc') (hd : decode M.1 pc = .ok (.lload i, 2)) (hj : lv[j]? = some (i, .long x)) (k : Go G l R Tm M n cells slots pc' lv (.long x :: st) S) : Go G l R Tm M n cells slots pc lv (st) S := by
  subst hp
  intro p e s m args below meth c H locs ls C hn hS hW hl
  exact lv_lload C.1 C.2.1 hd (am_at hl j hj) (k p e s m args below meth c H locs ls C hn hS hW hl)

theorem Go.aload_n {i : Fin 4} {x : Nat} (j : Nat) (pc' : Nat) (hp : pc + 1 = pc') (hd : decode M.1 pc = .ok (.aload_n i, 1)) (hj : lv[j]? = some ((i : Nat), .ref x)) (k : Go G l R Tm M n cells slots pc' lv (.ref x :: st) S) : Go G l R Tm M n cells slots pc lv (st) S := by
  subst hp
  intro p e s m args below meth c H locs ls C hn hS hW hl
  exact lv_aload_n C.1 C.2.1 hd rfl (am_at hl j hj) (k p e s m args below meth c H locs ls C hn hS hW hl)

theorem Go.aload {i : Nat} {x : Nat} (j : Nat) (pc' : Nat) (hp : pc + 2 = pc') (hd : decode M.1 pc = .ok (.aload i, 2)) (hj : lv[j]? = some (i, .ref x)) (k : Go G l R Tm M n cells slots pc' lv (.ref x :: st) S) : Go G l R Tm M n cells slots pc lv (st) S := by
  subst hp
  intro p e s m args below meth c H locs ls C hn hS hW hl
  exact lv_aload C.1 C.2.1 hd (am_at hl j hj) (k p e s m args below meth c H locs ls C hn hS hW hl)

theorem Go.istore_n {i : Fin 4} {x : Int32} (pc' : Nat) (lv' : List (Nat × Value)) (hp : pc + 1 = pc') (hd : decode M.1 pc = .ok (.istore_n i, 1)) (hi : (i : Nat) < M.2.1) (hv : ((i : Nat), Value.int x) :: lv.filter (fun q => !(q.1 == (i : Nat)) && !(q.1 + 1 == (i : Nat) && q.2.category == 2)) = lv') (k : Go G l R Tm M n cells slots pc' lv' st S) : Go G l R Tm M n cells slots pc lv (.int x :: st) S := by
  subst hp
  subst hv
  intro p e s m args below meth c H locs ls C hn hS hW hl
  exact lv_istore_n C.1 C.2.1 hd rfl hl hi (by rw [am_filter]; rfl) (fun ls' hl' => k p e s m args below meth c H locs ls' C hn hS hW hl')

theorem Go.istore {i : Nat} {x : Int32} (pc' : Nat) (lv' : List (Nat × Value)) (hp : pc + 2 = pc') (hd : decode M.1 pc = .ok (.istore i, 2)) (hi : i < M.2.1) (hv : (i, Value.int x) :: lv.filter (fun q => !(q.1 == i) && !(q.1 + 1 == i && q.2.category == 2)) = lv') (k : Go G l R Tm M n cells slots pc' lv' st S) : Go G l R Tm M n cells slots pc lv (.int x :: st) S := by
  subst hp
  subst hv
  intro p e s m args below meth c H locs ls C hn hS hW hl
  exact lv_istore C.1 C.2.1 hd hl hi (by rw [am_filter]; rfl) (fun ls' hl' => k p e s m args below meth c H locs ls' C hn hS hW hl')

theorem Go.astore_n {i : Fin 4} {x : Nat} (pc' : Nat) (lv' : List (Nat × Value)) (hp : pc + 1 = pc') (hd : decode M.1 pc = .ok (.astore_n i, 1)) (hi : (i : Nat) < M.2.1) (hv : ((i : Nat), Value.ref x) :: lv.filter (fun q => !(q.1 == (i : Nat)) && !(q.1 + 1 == (i : Nat) && q.2.category == 2)) = lv') (k : Go G l R Tm M n cells slots pc' lv' st S) : Go G l R Tm M n cells slots pc lv (.ref x :: st) S := by
  subst hp
  subst hv
  intro p e s m args below meth c H locs ls C hn hS hW hl
  exact lv_astore_n C.1 C.2.1 hd rfl hl hi (by rw [am_filter]; rfl) (fun ls' hl' => k p e s m args below meth c H locs ls' C hn hS hW hl')

theorem Go.astore {i : Nat} {x : Nat} (pc' : Nat) (lv' : List (Nat × Value)) (hp : pc + 2 = pc') (hd : decode M.1 pc = .ok (.astore i, 2)) (hi : i < M.2.1) (hv : (i, Value.ref x) :: lv.filter (fun q => !(q.1 == i) && !(q.1 + 1 == i && q.2.category == 2)) = lv') (k : Go G l R Tm M n cells slots pc' lv' st S) : Go G l R Tm M n cells slots pc lv (.ref x :: st) S := by
  subst hp
  subst hv
  intro p e s m args below meth c H locs ls C hn hS hW hl
  exact lv_astore C.1 C.2.1 hd hl hi (by rw [am_filter]; rfl) (fun ls' hl' => k p e s m args below meth c H locs ls' C hn hS hW hl')

theorem Go.lstore_n {i : Fin 4} {x : Int64} (pc' : Nat) (lv' : List (Nat × Value)) (hp : pc + 1 = pc') (hd : decode M.1 pc = .ok (.lstore_n i, 1)) (hi : (i : Nat) + 1 < M.2.1) (hv : ((i : Nat), Value.long x) :: lv.filter (fun q => !(q.1 == (i : Nat)) && (!(q.1 == (i : Nat) + 1) && !(q.1 + 1 == (i : Nat) && q.2.category == 2))) = lv') (k : Go G l R Tm M n cells slots pc' lv' st S) : Go G l R Tm M n cells slots pc lv (.long x :: st) S := by
  subst hp
  subst hv
  intro p e s m args below meth c H locs ls C hn hS hW hl
  exact lv_lstore_n C.1 C.2.1 hd rfl hl hi (by rw [am_filterL]; rfl) (fun ls' hl' => k p e s m args below meth c H locs ls' C hn hS hW hl')

theorem Go.lstore {i : Nat} {x : Int64} (pc' : Nat) (lv' : List (Nat × Value)) (hp : pc + 2 = pc') (hd : decode M.1 pc = .ok (.lstore i, 2)) (hi : i + 1 < M.2.1) (hv : (i, Value.long x) :: lv.filter (fun q => !(q.1 == i) && (!(q.1 == i + 1) && !(q.1 + 1 == i && q.2.category == 2))) = lv') (k : Go G l R Tm M n cells slots pc' lv' st S) : Go G l R Tm M n cells slots pc lv (.long x :: st) S := by
  subst hp
  subst hv
  intro p e s m args below meth c H locs ls C hn hS hW hl
  exact lv_lstore C.1 C.2.1 hd hl hi (by rw [am_filterL]; rfl) (fun ls' hl' => k p e s m args below meth c H locs ls' C hn hS hW hl')

theorem Go.iinc {i : Nat} {d : Int} {x : Int32} (j : Nat) (pc' : Nat) (y : Int32) (lv' : List (Nat × Value)) (hp : pc + 3 = pc') (hd : decode M.1 pc = .ok (.iinc i d, 3)) (hj : lv[j]? = some (i, .int x)) (hy : x + Int32.ofInt d = y) (hi : i < M.2.1) (hv : (i, Value.int y) :: lv.filter (fun q => !(q.1 == i) && !(q.1 + 1 == i && q.2.category == 2)) = lv') (k : Go G l R Tm M n cells slots pc' lv' st S) : Go G l R Tm M n cells slots pc lv st S := by
  subst hp
  subst hv
  intro p e s m args below meth c H locs ls C hn hS hW hl
  exact lv_iinc C.1 C.2.1 hd hl (k := j) (by rw [List.getElem?_map, hj]; rfl) hy hi (by rw [am_filter]; rfl) (fun ls' hl' => k p e s m args below meth c H locs ls' C hn hS hW hl')

theorem Go.iconst {z : Int} (v : Int32) (pc' : Nat) (hp : pc + 1 = pc') (hd : decode M.1 pc = .ok (.iconst z, 1)) (hv : Int32.ofInt z = v) (k : Go G l R Tm M n cells slots pc' lv (.int v :: st) S) : Go G l R Tm M n cells slots pc lv (st) S := by
  subst hp
  intro p e s m args below meth c H locs ls C hn hS hW hl
  exact lv_iconst C.1 C.2.1 hd hv (k p e s m args below meth c H locs ls C hn hS hW hl)

theorem Go.bipush {z : Int} (v : Int32) (pc' : Nat) (hp : pc + 2 = pc') (hd : decode M.1 pc = .ok (.bipush z, 2)) (hv : (Int8.ofInt z).toInt32 = v) (k : Go G l R Tm M n cells slots pc' lv (.int v :: st) S) : Go G l R Tm M n cells slots pc lv (st) S := by
  subst hp
  intro p e s m args below meth c H locs ls C hn hS hW hl
  exact lv_bipush C.1 C.2.1 hd hv (k p e s m args below meth c H locs ls C hn hS hW hl)

theorem Go.sipush {z : Int} (v : Int32) (pc' : Nat) (hp : pc + 3 = pc') (hd : decode M.1 pc = .ok (.sipush z, 3)) (hv : (Int16.ofInt z).toInt32 = v) (k : Go G l R Tm M n cells slots pc' lv (.int v :: st) S) : Go G l R Tm M n cells slots pc lv (st) S := by
  subst hp
  intro p e s m args below meth c H locs ls C hn hS hW hl
  exact lv_sipush C.1 C.2.1 hd hv (k p e s m args below meth c H locs ls C hn hS hW hl)

theorem Go.lconst {z : Fin 2} (v : Int64) (pc' : Nat) (hp : pc + 1 = pc') (hd : decode M.1 pc = .ok (.lconst z, 1)) (hv : Int64.ofNat (z : Nat) = v) (k : Go G l R Tm M n cells slots pc' lv (.long v :: st) S) : Go G l R Tm M n cells slots pc lv (st) S := by
  subst hp
  intro p e s m args below meth c H locs ls C hn hS hW hl
  exact lv_lconst C.1 C.2.1 hd hv (k p e s m args below meth c H locs ls C hn hS hW hl)

theorem Go.ldc {ix : Nat} (v : Int32) (pc' : Nat) (hp : pc + 2 = pc') (hd : decode M.1 pc = .ok (.ldc ix, 2)) (hw : Cond.constant M.2.2.2.1 ix v ∈ lw_g) (k : Go G l R Tm M n cells slots pc' lv (.int v :: st) S) : Go G l R Tm M n cells slots pc lv (st) S := by
  subst hp
  intro p e s m args below meth c H locs ls C hn hS hW hl
  exact lv_ldc C.1 C.2.1 C.2.2.2.2.1 (C.2.2.2.2.2.2.2.1 _ hw) hd (k p e s m args below meth c H locs ls C hn hS hW hl)

theorem Go.ldcw {ix : Nat} (v : Int32) (pc' : Nat) (hp : pc + 3 = pc') (hd : decode M.1 pc = .ok (.ldc_w ix, 3)) (hw : Cond.constant M.2.2.2.1 ix v ∈ lw_g) (k : Go G l R Tm M n cells slots pc' lv (.int v :: st) S) : Go G l R Tm M n cells slots pc lv (st) S := by
  subst hp
  intro p e s m args below meth c H locs ls C hn hS hW hl
  exact lv_ldcw C.1 C.2.1 C.2.2.2.2.1 (C.2.2.2.2.2.2.2.1 _ hw) hd (k p e s m args below meth c H locs ls C hn hS hW hl)

theorem Go.ldc2 {ix : Nat} (v : Int64) (pc' : Nat) (hp : pc + 3 = pc') (hd : decode M.1 pc = .ok (.ldc2_w ix, 3)) (hw : Cond.constantLong M.2.2.2.1 ix v ∈ lw_g) (k : Go G l R Tm M n cells slots pc' lv (.long v :: st) S) : Go G l R Tm M n cells slots pc lv (st) S := by
  subst hp
  intro p e s m args below meth c H locs ls C hn hS hW hl
  exact lv_ldc2 C.1 C.2.1 C.2.2.2.2.1 (C.2.2.2.2.2.2.2.1 _ hw) hd (k p e s m args below meth c H locs ls C hn hS hW hl)

theorem Go.iadd {x y : Int32} (pc' : Nat) (hp : pc + 1 = pc') (hd : decode M.1 pc = .ok (.iadd, 1)) (k : Go G l R Tm M n cells slots pc' lv (.int (x + y) :: st) S) : Go G l R Tm M n cells slots pc lv (.int y :: .int x :: st) S := by
  subst hp
  intro p e s m args below meth c H locs ls C hn hS hW hl
  exact lv_iadd C.1 C.2.1 hd (k p e s m args below meth c H locs ls C hn hS hW hl)

theorem Go.isub {x y : Int32} (pc' : Nat) (hp : pc + 1 = pc') (hd : decode M.1 pc = .ok (.isub, 1)) (k : Go G l R Tm M n cells slots pc' lv (.int (x - y) :: st) S) : Go G l R Tm M n cells slots pc lv (.int y :: .int x :: st) S := by
  subst hp
  intro p e s m args below meth c H locs ls C hn hS hW hl
  exact lv_isub C.1 C.2.1 hd (k p e s m args below meth c H locs ls C hn hS hW hl)

theorem Go.imul {x y : Int32} (pc' : Nat) (hp : pc + 1 = pc') (hd : decode M.1 pc = .ok (.imul, 1)) (k : Go G l R Tm M n cells slots pc' lv (.int (x * y) :: st) S) : Go G l R Tm M n cells slots pc lv (.int y :: .int x :: st) S := by
  subst hp
  intro p e s m args below meth c H locs ls C hn hS hW hl
  exact lv_imul C.1 C.2.1 hd (k p e s m args below meth c H locs ls C hn hS hW hl)

theorem Go.iand {x y : Int32} (pc' : Nat) (hp : pc + 1 = pc') (hd : decode M.1 pc = .ok (.iand, 1)) (k : Go G l R Tm M n cells slots pc' lv (.int (x &&& y) :: st) S) : Go G l R Tm M n cells slots pc lv (.int y :: .int x :: st) S := by
  subst hp
  intro p e s m args below meth c H locs ls C hn hS hW hl
  exact lv_iand C.1 C.2.1 hd (k p e s m args below meth c H locs ls C hn hS hW hl)

theorem Go.ior {x y : Int32} (pc' : Nat) (hp : pc + 1 = pc') (hd : decode M.1 pc = .ok (.ior, 1)) (k : Go G l R Tm M n cells slots pc' lv (.int (x ||| y) :: st) S) : Go G l R Tm M n cells slots pc lv (.int y :: .int x :: st) S := by
  subst hp
  intro p e s m args below meth c H locs ls C hn hS hW hl
  exact lv_ior C.1 C.2.1 hd (k p e s m args below meth c H locs ls C hn hS hW hl)

theorem Go.ixor {x y : Int32} (pc' : Nat) (hp : pc + 1 = pc') (hd : decode M.1 pc = .ok (.ixor, 1)) (k : Go G l R Tm M n cells slots pc' lv (.int (x ^^^ y) :: st) S) : Go G l R Tm M n cells slots pc lv (.int y :: .int x :: st) S := by
  subst hp
  intro p e s m args below meth c H locs ls C hn hS hW hl
  exact lv_ixor C.1 C.2.1 hd (k p e s m args below meth c H locs ls C hn hS hW hl)

theorem Go.ishl {x y : Int32} (pc' : Nat) (hp : pc + 1 = pc') (hd : decode M.1 pc = .ok (.ishl, 1)) (k : Go G l R Tm M n cells slots pc' lv (.int (x <<< (y &&& 31)) :: st) S) : Go G l R Tm M n cells slots pc lv (.int y :: .int x :: st) S := by
  subst hp
  intro p e s m args below meth c H locs ls C hn hS hW hl
  exact lv_ishl C.1 C.2.1 hd (k p e s m args below meth c H locs ls C hn hS hW hl)

theorem Go.ishr {x y : Int32} (pc' : Nat) (hp : pc + 1 = pc') (hd : decode M.1 pc = .ok (.ishr, 1)) (k : Go G l R Tm M n cells slots pc' lv (.int (x >>> (y &&& 31)) :: st) S) : Go G l R Tm M n cells slots pc lv (.int y :: .int x :: st) S := by
  subst hp
  intro p e s m args below meth c H locs ls C hn hS hW hl
  exact lv_ishr C.1 C.2.1 hd (k p e s m args below meth c H locs ls C hn hS hW hl)

theorem Go.iushr {x y : Int32} (pc' : Nat) (hp : pc + 1 = pc') (hd : decode M.1 pc = .ok (.iushr, 1)) (k : Go G l R Tm M n cells slots pc' lv (.int (x.toUInt32 >>> (y.toUInt32 &&& Int32.toUInt32 31)).toInt32 :: st) S) : Go G l R Tm M n cells slots pc lv (.int y :: .int x :: st) S := by
  subst hp
  intro p e s m args below meth c H locs ls C hn hS hW hl
  exact lv_iushr C.1 C.2.1 hd rfl (k p e s m args below meth c H locs ls C hn hS hW hl)

theorem Go.idiv {x y : Int32} (pc' : Nat) (hp : pc + 1 = pc') (hd : decode M.1 pc = .ok (.idiv, 1)) (h0 : ¬ y = 0) (k : Go G l R Tm M n cells slots pc' lv (.int (x / y) :: st) S) : Go G l R Tm M n cells slots pc lv (.int y :: .int x :: st) S := by
  subst hp
  intro p e s m args below meth c H locs ls C hn hS hW hl
  exact lv_idiv C.1 C.2.1 hd h0 (k p e s m args below meth c H locs ls C hn hS hW hl)

theorem Go.irem {x y : Int32} (pc' : Nat) (hp : pc + 1 = pc') (hd : decode M.1 pc = .ok (.irem, 1)) (h0 : ¬ y = 0) (k : Go G l R Tm M n cells slots pc' lv (.int (x - x / y * y) :: st) S) : Go G l R Tm M n cells slots pc lv (.int y :: .int x :: st) S := by
  subst hp
  intro p e s m args below meth c H locs ls C hn hS hW hl
  exact lv_irem C.1 C.2.1 hd h0 (k p e s m args below meth c H locs ls C hn hS hW hl)

theorem Go.ladd {x y : Int64} (pc' : Nat) (hp : pc + 1 = pc') (hd : decode M.1 pc = .ok (.ladd, 1)) (k : Go G l R Tm M n cells slots pc' lv (.long (x + y) :: st) S) : Go G l R Tm M n cells slots pc lv (.long y :: .long x :: st) S := by
  subst hp
  intro p e s m args below meth c H locs ls C hn hS hW hl
  exact lv_ladd C.1 C.2.1 hd (k p e s m args below meth c H locs ls C hn hS hW hl)

theorem Go.lsub {x y : Int64} (pc' : Nat) (hp : pc + 1 = pc') (hd : decode M.1 pc = .ok (.lsub, 1)) (k : Go G l R Tm M n cells slots pc' lv (.long (x - y) :: st) S) : Go G l R Tm M n cells slots pc lv (.long y :: .long x :: st) S := by
  subst hp
  intro p e s m args below meth c H locs ls C hn hS hW hl
  exact lv_lsub C.1 C.2.1 hd (k p e s m args below meth c H locs ls C hn hS hW hl)

theorem Go.lmul {x y : Int64} (pc' : Nat) (hp : pc + 1 = pc') (hd : decode M.1 pc = .ok (.lmul, 1)) (k : Go G l R Tm M n cells slots pc' lv (.long (x * y) :: st) S) : Go G l R Tm M n cells slots pc lv (.long y :: .long x :: st) S := by
  subst hp
  intro p e s m args below meth c H locs ls C hn hS hW hl
  exact lv_lmul C.1 C.2.1 hd (k p e s m args below meth c H locs ls C hn hS hW hl)

theorem Go.ldiv {x y : Int64} (pc' : Nat) (hp : pc + 1 = pc') (hd : decode M.1 pc = .ok (.ldiv, 1)) (h0 : ¬ y = 0) (k : Go G l R Tm M n cells slots pc' lv (.long (x / y) :: st) S) : Go G l R Tm M n cells slots pc lv (.long y :: .long x :: st) S := by
  subst hp
  intro p e s m args below meth c H locs ls C hn hS hW hl
  exact lv_ldiv C.1 C.2.1 hd h0 (k p e s m args below meth c H locs ls C hn hS hW hl)

theorem Go.lrem {x y : Int64} (pc' : Nat) (hp : pc + 1 = pc') (hd : decode M.1 pc = .ok (.lrem, 1)) (h0 : ¬ y = 0) (k : Go G l R Tm M n cells slots pc' lv (.long (x - x / y * y) :: st) S) : Go G l R Tm M n cells slots pc lv (.long y :: .long x :: st) S := by
  subst hp
  intro p e s m args below meth c H locs ls C hn hS hW hl
  exact lv_lrem C.1 C.2.1 hd h0 (k p e s m args below meth c H locs ls C hn hS hW hl)

theorem Go.ineg {x : Int32} (pc' : Nat) (hp : pc + 1 = pc') (hd : decode M.1 pc = .ok (.ineg, 1)) (k : Go G l R Tm M n cells slots pc' lv (.int (-x) :: st) S) : Go G l R Tm M n cells slots pc lv (.int x :: st) S := by
  subst hp
  intro p e s m args below meth c H locs ls C hn hS hW hl
  exact lv_ineg C.1 C.2.1 hd (k p e s m args below meth c H locs ls C hn hS hW hl)

theorem Go.i2l {x : Int32} (pc' : Nat) (hp : pc + 1 = pc') (hd : decode M.1 pc = .ok (.i2l, 1)) (k : Go G l R Tm M n cells slots pc' lv (.long x.toInt64 :: st) S) : Go G l R Tm M n cells slots pc lv (.int x :: st) S := by
  subst hp
  intro p e s m args below meth c H locs ls C hn hS hW hl
  exact lv_i2l C.1 C.2.1 hd rfl (k p e s m args below meth c H locs ls C hn hS hW hl)

theorem Go.l2i {x : Int64} (pc' : Nat) (hp : pc + 1 = pc') (hd : decode M.1 pc = .ok (.l2i, 1)) (k : Go G l R Tm M n cells slots pc' lv (.int x.toInt32 :: st) S) : Go G l R Tm M n cells slots pc lv (.long x :: st) S := by
  subst hp
  intro p e s m args below meth c H locs ls C hn hS hW hl
  exact lv_l2i C.1 C.2.1 hd rfl (k p e s m args below meth c H locs ls C hn hS hW hl)

theorem Go.i2b {x : Int32} (pc' : Nat) (hp : pc + 1 = pc') (hd : decode M.1 pc = .ok (.i2b, 1)) (k : Go G l R Tm M n cells slots pc' lv (.int x.toInt8.toInt32 :: st) S) : Go G l R Tm M n cells slots pc lv (.int x :: st) S := by
  subst hp
  intro p e s m args below meth c H locs ls C hn hS hW hl
  exact lv_i2b C.1 C.2.1 hd rfl (k p e s m args below meth c H locs ls C hn hS hW hl)

theorem Go.lcmp {x y : Int64} (pc' : Nat) (hp : pc + 1 = pc') (hd : decode M.1 pc = .ok (.lcmp, 1)) (k : Go G l R Tm M n cells slots pc' lv (.int (lg_cmp x y) :: st) S) : Go G l R Tm M n cells slots pc lv (.long y :: .long x :: st) S := by
  subst hp
  intro p e s m args below meth c H locs ls C hn hS hW hl
  exact W.lcmp C.1 C.2.1 hd (k p e s m args below meth c H locs ls C hn hS hW hl)

theorem Go.dup {v : Value} (pc' : Nat) (hp : pc + 1 = pc') (hd : decode M.1 pc = .ok (.dup, 1)) (hc : v.category = 1) (k : Go G l R Tm M n cells slots pc' lv (v :: v :: st) S) : Go G l R Tm M n cells slots pc lv (v :: st) S := by
  subst hp
  intro p e s m args below meth c H locs ls C hn hS hW hl
  exact lv_dup C.1 C.2.1 hd ((cV_cat G v).trans hc) (k p e s m args below meth c H locs ls C hn hS hW hl)

theorem Go.dup2 {v w : Value} (pc' : Nat) (hp : pc + 1 = pc') (hd : decode M.1 pc = .ok (.dup2, 1)) (hc : v.category = 1) (hc2 : w.category = 1) (k : Go G l R Tm M n cells slots pc' lv (v :: w :: v :: w :: st) S) : Go G l R Tm M n cells slots pc lv (v :: w :: st) S := by
  subst hp
  intro p e s m args below meth c H locs ls C hn hS hW hl
  exact lv_dup2_11 C.1 C.2.1 hd ((cV_cat G v).trans hc) ((cV_cat G w).trans hc2) (k p e s m args below meth c H locs ls C hn hS hW hl)

theorem Go.icmp_eq {x y : Int32} {off : Int} (tgt pc' : Nat) (hp : pc + 3 = pc') (hd : decode M.1 pc = .ok (.if_icmp .eq off, 3)) (ht : (pc : Int) + off = (tgt : Int)) (kt : x = y → Go G l R Tm M n cells slots tgt lv st S) (kf : ¬ x = y → Go G l R Tm M n cells slots pc' lv st S) : Go G l R Tm M n cells slots pc lv (.int y :: .int x :: st) S := by
  subst hp
  intro p e s m args below meth c H locs ls C hn hS hW hl
  exact lv_icmp_eq C.1 C.2.1 hd ht (fun h => kt h p e s m args below meth c H locs ls C hn hS hW hl) (fun h => kf h p e s m args below meth c H locs ls C hn hS hW hl)

theorem Go.icmp_ne {x y : Int32} {off : Int} (tgt pc' : Nat) (hp : pc + 3 = pc') (hd : decode M.1 pc = .ok (.if_icmp .ne off, 3)) (ht : (pc : Int) + off = (tgt : Int)) (kt : ¬ x = y → Go G l R Tm M n cells slots tgt lv st S) (kf : x = y → Go G l R Tm M n cells slots pc' lv st S) : Go G l R Tm M n cells slots pc lv (.int y :: .int x :: st) S := by
  subst hp
  intro p e s m args below meth c H locs ls C hn hS hW hl
  exact lv_icmp_ne C.1 C.2.1 hd ht (fun h => kt h p e s m args below meth c H locs ls C hn hS hW hl) (fun h => kf h p e s m args below meth c H locs ls C hn hS hW hl)

theorem Go.icmp_lt {x y : Int32} {off : Int} (tgt pc' : Nat) (hp : pc + 3 = pc') (hd : decode M.1 pc = .ok (.if_icmp .lt off, 3)) (ht : (pc : Int) + off = (tgt : Int)) (kt : x < y → Go G l R Tm M n cells slots tgt lv st S) (kf : ¬ x < y → Go G l R Tm M n cells slots pc' lv st S) : Go G l R Tm M n cells slots pc lv (.int y :: .int x :: st) S := by
  subst hp
  intro p e s m args below meth c H locs ls C hn hS hW hl
  exact lv_icmp_lt C.1 C.2.1 hd ht (fun h => kt h p e s m args below meth c H locs ls C hn hS hW hl) (fun h => kf h p e s m args below meth c H locs ls C hn hS hW hl)

theorem Go.icmp_ge {x y : Int32} {off : Int} (tgt pc' : Nat) (hp : pc + 3 = pc') (hd : decode M.1 pc = .ok (.if_icmp .ge off, 3)) (ht : (pc : Int) + off = (tgt : Int)) (kt : y ≤ x → Go G l R Tm M n cells slots tgt lv st S) (kf : ¬ y ≤ x → Go G l R Tm M n cells slots pc' lv st S) : Go G l R Tm M n cells slots pc lv (.int y :: .int x :: st) S := by
  subst hp
  intro p e s m args below meth c H locs ls C hn hS hW hl
  exact lv_icmp_ge C.1 C.2.1 hd ht (fun h => kt h p e s m args below meth c H locs ls C hn hS hW hl) (fun h => kf h p e s m args below meth c H locs ls C hn hS hW hl)

theorem Go.icmp_gt {x y : Int32} {off : Int} (tgt pc' : Nat) (hp : pc + 3 = pc') (hd : decode M.1 pc = .ok (.if_icmp .gt off, 3)) (ht : (pc : Int) + off = (tgt : Int)) (kt : y < x → Go G l R Tm M n cells slots tgt lv st S) (kf : ¬ y < x → Go G l R Tm M n cells slots pc' lv st S) : Go G l R Tm M n cells slots pc lv (.int y :: .int x :: st) S := by
  subst hp
  intro p e s m args below meth c H locs ls C hn hS hW hl
  exact lv_icmp_gt C.1 C.2.1 hd ht (fun h => kt h p e s m args below meth c H locs ls C hn hS hW hl) (fun h => kf h p e s m args below meth c H locs ls C hn hS hW hl)

theorem Go.icmp_le {x y : Int32} {off : Int} (tgt pc' : Nat) (hp : pc + 3 = pc') (hd : decode M.1 pc = .ok (.if_icmp .le off, 3)) (ht : (pc : Int) + off = (tgt : Int)) (kt : x ≤ y → Go G l R Tm M n cells slots tgt lv st S) (kf : ¬ x ≤ y → Go G l R Tm M n cells slots pc' lv st S) : Go G l R Tm M n cells slots pc lv (.int y :: .int x :: st) S := by
  subst hp
  intro p e s m args below meth c H locs ls C hn hS hW hl
  exact lv_icmp_le C.1 C.2.1 hd ht (fun h => kt h p e s m args below meth c H locs ls C hn hS hW hl) (fun h => kf h p e s m args below meth c H locs ls C hn hS hW hl)

theorem Go.if_eq {x : Int32} {off : Int} (tgt pc' : Nat) (hp : pc + 3 = pc') (hd : decode M.1 pc = .ok (.ifCond .eq off, 3)) (ht : (pc : Int) + off = (tgt : Int)) (kt : x = 0 → Go G l R Tm M n cells slots tgt lv st S) (kf : ¬ x = 0 → Go G l R Tm M n cells slots pc' lv st S) : Go G l R Tm M n cells slots pc lv (.int x :: st) S := by
  subst hp
  intro p e s m args below meth c H locs ls C hn hS hW hl
  exact lv_if_eq C.1 C.2.1 hd ht (fun h => kt h p e s m args below meth c H locs ls C hn hS hW hl) (fun h => kf h p e s m args below meth c H locs ls C hn hS hW hl)

theorem Go.if_ne {x : Int32} {off : Int} (tgt pc' : Nat) (hp : pc + 3 = pc') (hd : decode M.1 pc = .ok (.ifCond .ne off, 3)) (ht : (pc : Int) + off = (tgt : Int)) (kt : ¬ x = 0 → Go G l R Tm M n cells slots tgt lv st S) (kf : x = 0 → Go G l R Tm M n cells slots pc' lv st S) : Go G l R Tm M n cells slots pc lv (.int x :: st) S := by
  subst hp
  intro p e s m args below meth c H locs ls C hn hS hW hl
  exact lv_if_ne C.1 C.2.1 hd ht (fun h => kt h p e s m args below meth c H locs ls C hn hS hW hl) (fun h => kf h p e s m args below meth c H locs ls C hn hS hW hl)

theorem Go.if_lt {x : Int32} {off : Int} (tgt pc' : Nat) (hp : pc + 3 = pc') (hd : decode M.1 pc = .ok (.ifCond .lt off, 3)) (ht : (pc : Int) + off = (tgt : Int)) (kt : x < 0 → Go G l R Tm M n cells slots tgt lv st S) (kf : ¬ x < 0 → Go G l R Tm M n cells slots pc' lv st S) : Go G l R Tm M n cells slots pc lv (.int x :: st) S := by
  subst hp
  intro p e s m args below meth c H locs ls C hn hS hW hl
  exact lv_if_lt C.1 C.2.1 hd ht (fun h => kt h p e s m args below meth c H locs ls C hn hS hW hl) (fun h => kf h p e s m args below meth c H locs ls C hn hS hW hl)

theorem Go.if_ge {x : Int32} {off : Int} (tgt pc' : Nat) (hp : pc + 3 = pc') (hd : decode M.1 pc = .ok (.ifCond .ge off, 3)) (ht : (pc : Int) + off = (tgt : Int)) (kt : 0 ≤ x → Go G l R Tm M n cells slots tgt lv st S) (kf : ¬ 0 ≤ x → Go G l R Tm M n cells slots pc' lv st S) : Go G l R Tm M n cells slots pc lv (.int x :: st) S := by
  subst hp
  intro p e s m args below meth c H locs ls C hn hS hW hl
  exact lv_if_ge C.1 C.2.1 hd ht (fun h => kt h p e s m args below meth c H locs ls C hn hS hW hl) (fun h => kf h p e s m args below meth c H locs ls C hn hS hW hl)

theorem Go.if_gt {x : Int32} {off : Int} (tgt pc' : Nat) (hp : pc + 3 = pc') (hd : decode M.1 pc = .ok (.ifCond .gt off, 3)) (ht : (pc : Int) + off = (tgt : Int)) (kt : 0 < x → Go G l R Tm M n cells slots tgt lv st S) (kf : ¬ 0 < x → Go G l R Tm M n cells slots pc' lv st S) : Go G l R Tm M n cells slots pc lv (.int x :: st) S := by
  subst hp
  intro p e s m args below meth c H locs ls C hn hS hW hl
  exact lv_if_gt C.1 C.2.1 hd ht (fun h => kt h p e s m args below meth c H locs ls C hn hS hW hl) (fun h => kf h p e s m args below meth c H locs ls C hn hS hW hl)

theorem Go.if_le {x : Int32} {off : Int} (tgt pc' : Nat) (hp : pc + 3 = pc') (hd : decode M.1 pc = .ok (.ifCond .le off, 3)) (ht : (pc : Int) + off = (tgt : Int)) (kt : x ≤ 0 → Go G l R Tm M n cells slots tgt lv st S) (kf : ¬ x ≤ 0 → Go G l R Tm M n cells slots pc' lv st S) : Go G l R Tm M n cells slots pc lv (.int x :: st) S := by
  subst hp
  intro p e s m args below meth c H locs ls C hn hS hW hl
  exact lv_if_le C.1 C.2.1 hd ht (fun h => kt h p e s m args below meth c H locs ls C hn hS hW hl) (fun h => kf h p e s m args below meth c H locs ls C hn hS hW hl)

theorem Go.goto {off : Int} (tgt : Nat) (hd : decode M.1 pc = .ok (.goto off, 3)) (ht : (pc : Int) + off = (tgt : Int)) (k : Go G l R Tm M n cells slots tgt lv st S) : Go G l R Tm M n cells slots pc lv st S := by
  intro p e s m args below meth c H locs ls C hn hS hW hl
  exact lv_goto C.1 C.2.1 hd ht (k p e s m args below meth c H locs ls C hn hS hW hl)

theorem Go.tin {dflt lo hi : Int} {offs : Array Int} {len : Nat} {x : Int32} {off : Int} (v : Int32) (tgt : Nat) (hx : x = v) (hd : decode M.1 pc = .ok (.tableswitch dflt lo hi offs, len)) (h1 : ¬ v.toInt < lo) (h2 : ¬ hi < v.toInt) (ho : offs[(v.toInt - lo).toNat]? = some off) (ht : (pc : Int) + off = (tgt : Int)) (k : Go G l R Tm M n cells slots tgt lv st S) : Go G l R Tm M n cells slots pc lv (.int x :: st) S := by
  subst hx
  intro p e s m args below meth c H locs ls C hn hS hW hl
  exact lv_tableIn C.1 C.2.1 hd h1 h2 ho ht (k p e s m args below meth c H locs ls C hn hS hW hl)

theorem Go.tout {dflt lo hi : Int} {offs : Array Int} {len : Nat} {x : Int32} (tgt : Nat) (hd : decode M.1 pc = .ok (.tableswitch dflt lo hi offs, len)) (h : x.toInt < lo ∨ hi < x.toInt) (ht : (pc : Int) + dflt = (tgt : Int)) (k : Go G l R Tm M n cells slots tgt lv st S) : Go G l R Tm M n cells slots pc lv (.int x :: st) S := by
  intro p e s m args below meth c H locs ls C hn hS hW hl
  exact lv_tableOut C.1 C.2.1 hd h ht (k p e s m args below meth c H locs ls C hn hS hW hl)

/-- fewer locals, in another order -/
theorem Go.sub (ks : List Nat) (lv' : List (Nat × Value)) (h : lv_pick lv ks = lv') (k : Go G l R Tm M n cells slots pc lv' st S) : Go G l R Tm M n cells slots pc lv st S := by
  intro p e s m args below meth c H locs ls C hn hS hW hl
  refine k p e s m args below meth c H locs ls C hn hS hW (lv_sub hl ks ?_)
  subst h
  simp [lv_pick, List.map_filterMap, Function.comp_def]

end GO
end
section
/-! Rows of 'Go' over the heap: fields, arrays. -/
theorem w_size {p : Program} {l : Launch} {e : Env} {R : Room} {s : State} {m : MethodId} {args : Array Value} {below : List Frame} {meth : Method} {c : Code} {H : Heap} {locs : List Loc} {cells slots : Nat} {Q : State → Prop} {g : JFrame} (k : H.size ≤ s.heap.size + cells → W p l e R s m args below meth c H locs cells slots Q g) : W p l e R s m args below meth c H locs cells slots Q g :=
  fun T hT X => k (by rw [← hT]; exact X.same.2.2.1) T hT X
def aFl (own : String) (ix ci j : Nat) : Prop := ∃ (C : String) (T : u_T) (N : Nat), vwCl[ci]? = some (C, T, N) ∧ j < N ∧ (∀ w ∈ u_ws C T N, w ∈ lw_g) ∧ (Cond.fieldLink own ix (T j).1 (T j).2.1 (T j).2.2.1 ∈ lw_g ∨ ∃ host, Cond.fieldLinkNest own ix (T j).1 (T j).2.1 (T j).2.2.1 host ∈ lw_n)
def aFp (own : String) (ix ci j : Nat) (ty : FieldType) (fin : Bool) : Prop := ∃ (C : String) (T : u_T) (N : Nat) (ty0 : Nat → FieldType), vwCl[ci]? = some (C, T, N) ∧ j < N ∧ (∀ w ∈ u_ws C T N, w ∈ lw_g) ∧ (Cond.fieldLink own ix (T j).1 (T j).2.1 (T j).2.2.1 ∈ lw_g ∨ ((∃ host, Cond.fieldLinkNest own ix (T j).1 (T j).2.1 (T j).2.2.1 host ∈ lw_n) ∧ fin = false)) ∧ (∀ k, k < N → parseFieldDescriptor (T k).2.2.1 = some (ty0 k)) ∧ (∀ a, a < N → ∀ b, b < N → a ≠ b → (T a).2.1 ≠ (T b).2.1) ∧ (T j).2.2.2 = fin ∧ parseFieldDescriptor (T j).2.2.1 = some ty ∧ (fin = true → (T j).1 = own)
theorem am_cE_obj {G : aG} {S : aSt} {k tag : Nat} (h : (SH k).1 = tag) (ht : tag < 7) : am_cE G S k = .inr (tag, am_fs G S k) := by
  unfold am_cE
  rw [h]
  rcases tag with _ | _ | _ | _ | _ | _ | _ | t <;> first | rfl | omega
theorem am_cE_int {G : aG} {S : aSt} {k : Nat} (h : (SH k).1 = 7) : am_cE G S k = .inl ((gC G).1, (SH k).2, .inl (S.1 k)) := by simp [am_cE, h]
theorem am_cE_bool {G : aG} {S : aSt} {k : Nat} (h : (SH k).1 = 8) : am_cE G S k = .inl ((gC G).2.1, (SH k).2, .inl (S.1 k)) := by simp [am_cE, h]
theorem am_cE_rows {G : aG} {S : aSt} {k : Nat} (h : (SH k).1 = 9) : am_cE G S k = .inl ((gC G).2.2.1, (SH k).2, .inr (.inr (.inr (.inr (fun i => (S.2.2 k i).map (qa G)))))) := by simp [am_cE, h]
theorem am_cE_std {G : aG} {S : aSt} {k : Nat} (h : (SH k).1 = 10) : am_cE G S k = .inl ((gC G).2.2.2, (SH k).2, .inr (.inr (.inr (.inr (fun i => (S.2.2 k i).map (qa G)))))) := by simp [am_cE, h]
theorem vw_lt {ci : Nat} {q : vw_C} (h : vwCl[ci]? = some q) : ci < 7 := (List.getElem?_eq_some_iff.mp h).1
theorem am_fs_get {G : aG} {S : aSt} {k tag j ty : Nat} (h : (SH k).1 = tag) (hj : (ftys tag)[j]? = some ty) : (am_fs G S k)[j]? = some (am_fv G S k j ty) := by
  have hl := (List.getElem?_eq_some_iff.mp hj).1
  unfold am_fs
  rw [h, List.getElem?_map, List.getElem?_range hl]
  show some (am_fv G S k j ((ftys tag).getD j 0)) = _
  rw [List.getD_eq_getElem?_getD, hj]
  rfl
theorem am_fs_len {G : aG} {S : aSt} {k tag j ty : Nat} (h : (SH k).1 = tag) (hj : (ftys tag)[j]? = some ty) : j < (am_fs G S k).length := by
  have hl := (List.getElem?_eq_some_iff.mp hj).1
  unfold am_fs
  rw [h]
  simpa using hl
theorem am_fs_set {G : aG} {S S' : aSt} {k tag j ty : Nat} {v : Value} (h : (SH k).1 = tag) (hj : (ftys tag)[j]? = some ty) (hv : am_fv G S' k j ty = v) (ho : ∀ i t, i ≠ j → am_fv G S' k i t = am_fv G S k i t) : (am_fs G S k).set j v = am_fs G S' k := by
  have hl := (List.getElem?_eq_some_iff.mp hj).1
  apply List.ext_getElem?
  intro i
  by_cases hij : i = j
  · subst hij
    rw [List.getElem?_set_self (am_fs_len h hj), am_fs_get h hj, hv]
  · rw [List.getElem?_set_ne (Ne.symm hij)]
    unfold am_fs
    rw [List.getElem?_map, List.getElem?_map]
    by_cases hi : i < (ftys (SH k).1).length
    · rw [List.getElem?_range hi]
      show some (am_fv G S k i _) = some (am_fv G S' k i _)
      rw [ho i _ hij]
    · rw [List.getElem?_eq_none (by simpa using hi)]
      rfl
theorem am_old {G : aG} {s : State} {H : Heap} {locs : List Loc} (h : ∀ a, a < gB G → s.heap[a]? = G.1[a]?) (hS : va_S (gA G) s.heap H locs) : ∀ a, a < gB G → H[a]? = G.1[a]? := by
  intro a ha
  have h1 := h a ha
  by_cases hlt : a < s.heap.size
  · rw [hS.2.1 a hlt (by show ¬ gB G ≤ a; omega)]
    exact h1
  · rw [show G.1[a]? = some (G.1[a]'ha) from Array.getElem?_eq_getElem ha] at h1
    exact absurd (Array.getElem?_eq_some_iff.mp h1).1 hlt
section GH
variable {G : aG} {l : Launch} {R : Room} {Tm : List Frame → Array Value → State → State → Prop} {M : aM} {n cells slots pc : Nat} {lv : List (Nat × Value)} {st : List Value} {S : aSt}
theorem Go.getV {ix k tag j ty : Nat} (pc' : Nat) (hp : pc + 3 = pc') (hd : decode M.1 pc = .ok (.getfield ix, 3)) (hf : aFl M.2.2.2.1 ix tag j) (hj : (ftys tag)[j]? = some ty) (hk : k < n) (ht : (SH k).1 = tag) (v : Value) (hv : am_fv G S k j ty = cV G v) (kk : Go G l R Tm M n cells slots pc' lv (v :: st) S) : Go G l R Tm M n cells slots pc lv (.ref k :: st) S := by
  subst hp
  intro p e s m args below meth c H locs ls C hn hS hW hl
  obtain ⟨Cn, T, N, hc, hjN, hws, hlk⟩ := hf
  have hq : qa G k = gB G + k := qa_own (by have := hW.1; omega)
  have he : (aws G n S)[k]? = some (gB G + k, .inr (tag, am_fs G S k)) := by rw [aws_get hk, am_cE_obj ht (vw_lt hc)]
  have hfs := am_fs_get (G := G) (S := S) ht hj
  rw [hv] at hfs
  have hgo := kk p e s m args below meth c H locs ls C hn hS hW hl
  show W p l e R s m args below meth c H locs cells slots (Tm below args s) (F0 m pc ls (.ref (qa G k) :: st.map (cV G)))
  rw [hq]
  rcases hlk with hlk | ⟨host, hlk⟩
  · exact va_get C.1 C.2.1 C.2.2.2.2.2.2.2.1 hws C.2.2.2.2.1 C.2.2.2.2.2.2.2.2.1.1 hW.2.1 k he hc j hjN (C.2.2.2.2.2.2.2.1 _ hlk) (fun _ h9 => h9) hfs hd hgo
  · exact va_getN C.1 C.2.1 C.2.2.2.2.2.2.2.1 hws C.2.2.2.2.1 C.2.2.2.2.2.2.2.2.1.1 hW.2.1 k he hc j hjN (va_Nw.use rfl (C.2.2.2.2.2.2.2.2.1.2.1 _ hlk)) (fun _ h9 => h9) hfs hd hgo
theorem Go.getI {ix k tag j : Nat} (pc' : Nat) (hp : pc + 3 = pc') (hd : decode M.1 pc = .ok (.getfield ix, 3)) (hf : aFl M.2.2.2.1 ix tag j) (hj : (ftys tag)[j]? = some 0) (hk : k < n) (ht : (SH k).1 = tag) (kk : Go G l R Tm M n cells slots pc' lv (.int (S.1 k j) :: st) S) : Go G l R Tm M n cells slots pc lv (.ref k :: st) S := Go.getV pc' hp hd hf hj hk ht (.int (S.1 k j)) rfl kk
theorem Go.getL {ix k tag j : Nat} (pc' : Nat) (hp : pc + 3 = pc') (hd : decode M.1 pc = .ok (.getfield ix, 3)) (hf : aFl M.2.2.2.1 ix tag j) (hj : (ftys tag)[j]? = some 1) (hk : k < n) (ht : (SH k).1 = tag) (kk : Go G l R Tm M n cells slots pc' lv (.long (S.2.1 k j) :: st) S) : Go G l R Tm M n cells slots pc lv (.ref k :: st) S := Go.getV pc' hp hd hf hj hk ht (.long (S.2.1 k j)) rfl kk
theorem Go.getR {ix k tag j k' : Nat} (pc' : Nat) (hp : pc + 3 = pc') (hd : decode M.1 pc = .ok (.getfield ix, 3)) (hf : aFl M.2.2.2.1 ix tag j) (hj : (ftys tag)[j]? = some 2) (hk : k < n) (ht : (SH k).1 = tag) (hr : S.2.2 k j = some k') (kk : Go G l R Tm M n cells slots pc' lv (.ref k' :: st) S) : Go G l R Tm M n cells slots pc lv (.ref k :: st) S := Go.getV pc' hp hd hf hj hk ht (.ref k') (by show va_rf ((S.2.2 k j).map (qa G)) = _; rw [hr]; rfl) kk
theorem Go.putV {ix k tag j tyn : Nat} {ty : FieldType} {fin : Bool} {v : Value} (pc' : Nat) (S' : aSt) (hp : pc + 3 = pc') (hd : decode M.1 pc = .ok (.putfield ix, 3)) (hf : aFp M.2.2.2.1 ix tag j ty fin) (hj : (ftys tag)[j]? = some tyn) (hk : k < n) (ht : (SH k).1 = tag) (hnr : narrow ty (cV G v) = cV G v) (hfit : fits ty (cV G v) = true) (hfin : fin = true → M.2.2.2.2 = "<init>") (hv : am_fv G S' k j tyn = cV G v) (ho : ∀ i t, i ≠ j → am_fv G S' k i t = am_fv G S k i t) (ho2 : ∀ a, a ≠ k → am_cE G S' a = am_cE G S a) (kk : Go G l R Tm M n cells slots pc' lv st S') : Go G l R Tm M n cells slots pc lv (v :: .ref k :: st) S := by
  subst hp
  intro p e s m args below meth c H locs ls C hn hS hW hl
  obtain ⟨Cn, T, N, ty0, hc, hjN, hws, hlk, hty, hnm, hfi, hpd, hown⟩ := hf
  have hq : qa G k = gB G + k := qa_own (by have := hW.1; omega)
  have he : (aws G n S)[k]? = some (gB G + k, .inr (tag, am_fs G S k)) := by rw [aws_get hk, am_cE_obj ht (vw_lt hc)]
  have hset : (aws G n S).set k (gB G + k, .inr (tag, (am_fs G S k).set j (cV G v))) = aws G n S' := aws_set (by rw [am_cE_obj ht (vw_lt hc), am_fs_set ht hj hv ho]) ho2
  have hgo : ∀ (H1 : Heap) (locs1 : List Loc), va_P (gD G) vwCl ((aws G n S).set k (gB G + k, .inr (tag, (am_fs G S k).set j (cV G v)))) H1 → va_D (gA G) ((aws G n S).set k (gB G + k, .inr (tag, (am_fs G S k).set j (cV G v)))) → va_S (gA G) s.heap H1 locs1 → W p l e R s m args below meth c H1 locs1 cells slots (Tm below args s) (F0 m (pc + 3) ls (st.map (cV G))) := by
    intro H1 locs1 hP1 _ hS1
    rw [hset] at hP1
    exact kk p e s m args below meth c H1 locs1 ls C hn hS1 ⟨hW.1, hP1, am_old C.2.2.2.2.2.2.2.2.2 hS1⟩ hl
  show W p l e R s m args below meth c H locs cells slots (Tm below args s) (F0 m pc ls (cV G v :: .ref (qa G k) :: st.map (cV G)))
  rw [hq]
  cases fin with
  | false =>
    rcases hlk with hlk | ⟨⟨host, hlk⟩, -⟩
    · exact va_put C.1 C.2.1 C.2.2.2.2.2.2.2.1 hws ty0 hty hnm C.2.2.2.2.1 C.2.2.2.2.2.2.2.2.1.1 hW.2.1 (aws_D G n S) hS k he hc j hjN (C.2.2.2.2.2.2.2.1 _ hlk) (fun _ h9 => h9) hfi hpd hnr hfit (am_fs_len ht hj) hd hgo
    · exact va_putN C.1 C.2.1 C.2.2.2.2.2.2.2.1 hws ty0 hty hnm C.2.2.2.2.1 C.2.2.2.2.2.2.2.2.1.1 hW.2.1 (aws_D G n S) hS k he hc j hjN (va_Nw.use rfl (C.2.2.2.2.2.2.2.2.1.2.1 _ hlk)) (fun _ h9 => h9) hfi hpd hnr hfit (am_fs_len ht hj) hd hgo
  | true =>
    rcases hlk with hlk | ⟨-, h0⟩
    · exact va_putF C.1 C.2.1 C.2.2.2.2.2.2.2.1 hws ty0 hty hnm C.2.2.2.2.1 C.2.2.2.2.2.2.2.2.1.1 hW.2.1 (aws_D G n S) hS k he hc j hjN (C.2.2.2.2.2.2.2.1 _ hlk) (fun _ h9 => h9) hfi (C.2.2.2.2.2.1.trans (hfin rfl)) (hown rfl) hpd hnr hfit (am_fs_len ht hj) hd hgo
    · cases h0
theorem am_fv_ne {G : aG} {S S' : aSt} {k i t : Nat} (h1 : S'.1 k i = S.1 k i) (h2 : S'.2.1 k i = S.2.1 k i) (h3 : S'.2.2 k i = S.2.2 k i) : am_fv G S' k i t = am_fv G S k i t := by
  unfold am_fv
  rw [h1, h2, h3]
theorem Go.putI {ix k tag j : Nat} {fin : Bool} {v : Int32} (pc' : Nat) (hp : pc + 3 = pc') (hd : decode M.1 pc = .ok (.putfield ix, 3)) (hf : aFp M.2.2.2.1 ix tag j .int fin) (hj : (ftys tag)[j]? = some 0) (hk : k < n) (ht : (SH k).1 = tag) (hfin : fin = true → M.2.2.2.2 = "<init>") (kk : Go G l R Tm M n cells slots pc' lv st (stI S k j v)) : Go G l R Tm M n cells slots pc lv (.int v :: .ref k :: st) S := by
  refine Go.putV (v := .int v) pc' (stI S k j v) hp hd hf hj hk ht rfl rfl hfin ?_ (fun i t hij => am_fv_ne ?_ rfl rfl) (fun a ha => am_cE_congr (stI_ne ha) rfl rfl) kk
  · show Value.int ((stI S k j v).1 k j) = Value.int v
    rw [stI_self]
    simp [upd]
  · rw [stI_self]
    simp [upd, hij]
theorem Go.putL {ix k tag j : Nat} {fin : Bool} {v : Int64} (pc' : Nat) (hp : pc + 3 = pc') (hd : decode M.1 pc = .ok (.putfield ix, 3)) (hf : aFp M.2.2.2.1 ix tag j .long fin) (hj : (ftys tag)[j]? = some 1) (hk : k < n) (ht : (SH k).1 = tag) (hfin : fin = true → M.2.2.2.2 = "<init>") (kk : Go G l R Tm M n cells slots pc' lv st (stL S k j v)) : Go G l R Tm M n cells slots pc lv (.long v :: .ref k :: st) S := by
  refine Go.putV (v := .long v) pc' (stL S k j v) hp hd hf hj hk ht rfl rfl hfin ?_ (fun i t hij => am_fv_ne rfl ?_ rfl) (fun a ha => am_cE_congr rfl (by simp [stL, ha]) rfl) kk
  · show Value.long ((stL S k j v).2.1 k j) = Value.long v
    simp [stL, vp_updL]
  · simp [stL, vp_updL, hij]
theorem Go.putR {ix k tag j v : Nat} {ty : FieldType} {fin : Bool} (pc' : Nat) (hp : pc + 3 = pc') (hd : decode M.1 pc = .ok (.putfield ix, 3)) (hf : aFp M.2.2.2.1 ix tag j ty fin) (hty : (∃ q, ty = .object q) ∨ ∃ q, ty = .array q) (hj : (ftys tag)[j]? = some 2) (hk : k < n) (ht : (SH k).1 = tag) (hfin : fin = true → M.2.2.2.2 = "<init>") (kk : Go G l R Tm M n cells slots pc' lv st (stR S k j (some v))) : Go G l R Tm M n cells slots pc lv (.ref v :: .ref k :: st) S := by
  refine Go.putV (v := .ref v) pc' (stR S k j (some v)) hp hd hf hj hk ht ?_ ?_ hfin ?_ (fun i t hij => am_fv_ne rfl rfl ?_) (fun a ha => am_cE_congr rfl rfl (by simp [stR, ha])) kk
  · rcases hty with ⟨q, rfl⟩ | ⟨q, rfl⟩ <;> rfl
  · rcases hty with ⟨q, rfl⟩ | ⟨q, rfl⟩ <;> rfl
  · show va_rf (((stR S k j (some v)).2.2 k j).map (qa G)) = Value.ref (qa G v)
    simp [stR, va_up, va_rf]
  · simp [stR, va_up, hij]
/-! arrays -/
theorem Go.iald {k : Nat} {i : Int32} (pc' : Nat) (hp : pc + 1 = pc') (hd : decode M.1 pc = .ok (.iaload, 1)) (hk : k < n) (ht : (SH k).1 = 7) (hin : inb i (SH k).2 = true) (kk : Go G l R Tm M n cells slots pc' lv (.int (S.1 k i.toNatClampNeg) :: st) S) : Go G l R Tm M n cells slots pc lv (.int i :: .ref k :: st) S := by
  subst hp
  intro p e s m args below meth c H locs ls C hn hS hW hl
  have hq : qa G k = gB G + k := qa_own (by have := hW.1; omega)
  show W p l e R s m args below meth c H locs cells slots (Tm below args s) (F0 m pc ls (.int i :: .ref (qa G k) :: st.map (cV G)))
  rw [hq]
  exact va_iald C.1 C.2.1 C.2.2.2.2.2.2.2.2.1.1 hW.2.1 k 0 (by rw [aws_get hk, am_cE_int ht]) rfl (inb_in hin) hd (kk p e s m args below meth c H locs ls C hn hS hW hl)
theorem Go.zald {k : Nat} {i : Int32} (pc' : Nat) (hp : pc + 1 = pc') (hd : decode M.1 pc = .ok (.baload, 1)) (hk : k < n) (ht : (SH k).1 = 8) (hin : inb i (SH k).2 = true) (kk : Go G l R Tm M n cells slots pc' lv (.int (S.1 k i.toNatClampNeg) :: st) S) : Go G l R Tm M n cells slots pc lv (.int i :: .ref k :: st) S := by
  subst hp
  intro p e s m args below meth c H locs ls C hn hS hW hl
  have hq : qa G k = gB G + k := qa_own (by have := hW.1; omega)
  show W p l e R s m args below meth c H locs cells slots (Tm below args s) (F0 m pc ls (.int i :: .ref (qa G k) :: st.map (cV G)))
  rw [hq]
  exact va_zald C.1 C.2.1 C.2.2.2.2.2.2.2.2.1.1 hW.2.1 k 1 (by rw [aws_get hk, am_cE_bool ht]) rfl (inb_in hin) hd (kk p e s m args below meth c H locs ls C hn hS hW hl)
theorem Go.aaldR {k k' : Nat} {i : Int32} (pc' : Nat) (hp : pc + 1 = pc') (hd : decode M.1 pc = .ok (.aaload, 1)) (hk : k < n) (ht : (SH k).1 = 9) (hin : inb i (SH k).2 = true) (hr : S.2.2 k i.toNatClampNeg = some k') (kk : Go G l R Tm M n cells slots pc' lv (.ref k' :: st) S) : Go G l R Tm M n cells slots pc lv (.int i :: .ref k :: st) S := by
  subst hp
  intro p e s m args below meth c H locs ls C hn hS hW hl
  have hq : qa G k = gB G + k := qa_own (by have := hW.1; omega)
  show W p l e R s m args below meth c H locs cells slots (Tm below args s) (F0 m pc ls (.int i :: .ref (qa G k) :: st.map (cV G)))
  rw [hq]
  refine va_aldq C.1 C.2.1 C.2.2.2.2.2.2.2.2.1.1 hW.2.1 k 2 (by rw [aws_get hk, am_cE_rows ht]) rfl (inb_in hin) hd ?_
  rw [hr]
  exact kk p e s m args below meth c H locs ls C hn hS hW hl
theorem Go.aaldS {k k' : Nat} {i : Int32} (pc' : Nat) (hp : pc + 1 = pc') (hd : decode M.1 pc = .ok (.aaload, 1)) (hk : k < n) (ht : (SH k).1 = 10) (hin : inb i (SH k).2 = true) (hr : S.2.2 k i.toNatClampNeg = some k') (kk : Go G l R Tm M n cells slots pc' lv (.ref k' :: st) S) : Go G l R Tm M n cells slots pc lv (.int i :: .ref k :: st) S := by
  subst hp
  intro p e s m args below meth c H locs ls C hn hS hW hl
  have hq : qa G k = gB G + k := qa_own (by have := hW.1; omega)
  show W p l e R s m args below meth c H locs cells slots (Tm below args s) (F0 m pc ls (.int i :: .ref (qa G k) :: st.map (cV G)))
  rw [hq]
  refine va_aldq C.1 C.2.1 C.2.2.2.2.2.2.2.2.1.1 hW.2.1 k 3 (by rw [aws_get hk, am_cE_std ht]) rfl (inb_in hin) hd ?_
  rw [hr]
  exact kk p e s m args below meth c H locs ls C hn hS hW hl
theorem Go.iast {k : Nat} {i x : Int32} (pc' : Nat) (hp : pc + 1 = pc') (hd : decode M.1 pc = .ok (.iastore, 1)) (hk : k < n) (ht : (SH k).1 = 7) (hin : inb i (SH k).2 = true) (kk : Go G l R Tm M n cells slots pc' lv st (stI S k i.toNatClampNeg x)) : Go G l R Tm M n cells slots pc lv (.int x :: .int i :: .ref k :: st) S := by
  subst hp
  intro p e s m args below meth c H locs ls C hn hS hW hl
  have hq : qa G k = gB G + k := qa_own (by have := hW.1; omega)
  show W p l e R s m args below meth c H locs cells slots (Tm below args s) (F0 m pc ls (.int x :: .int i :: .ref (qa G k) :: st.map (cV G)))
  rw [hq]
  refine va_iast C.1 C.2.1 C.2.2.2.2.2.2.2.2.1.1 hW.2.1 (aws_D G n S) hS k 0 (by rw [aws_get hk, am_cE_int ht]) rfl (inb_in hin) hd (fun H1 locs1 hP1 _ hS1 => ?_)
  rw [aws_set (S := S) (S' := stI S k i.toNatClampNeg x) (by rw [am_cE_int ht, stI_self]) (fun a ha => am_cE_congr (stI_ne ha) rfl rfl)] at hP1
  exact kk p e s m args below meth c H1 locs1 ls C hn hS1 ⟨hW.1, hP1, am_old C.2.2.2.2.2.2.2.2.2 hS1⟩ hl
theorem Go.zast {k : Nat} {i x : Int32} (pc' : Nat) (hp : pc + 1 = pc') (hd : decode M.1 pc = .ok (.bastore, 1)) (hk : k < n) (ht : (SH k).1 = 8) (hin : inb i (SH k).2 = true) (kk : Go G l R Tm M n cells slots pc' lv st (stI S k i.toNatClampNeg (vp_nar .boolean x))) : Go G l R Tm M n cells slots pc lv (.int x :: .int i :: .ref k :: st) S := by
  subst hp
  intro p e s m args below meth c H locs ls C hn hS hW hl
  have hq : qa G k = gB G + k := qa_own (by have := hW.1; omega)
  show W p l e R s m args below meth c H locs cells slots (Tm below args s) (F0 m pc ls (.int x :: .int i :: .ref (qa G k) :: st.map (cV G)))
  rw [hq]
  refine va_zast C.1 C.2.1 C.2.2.2.2.2.2.2.2.1.1 hW.2.1 (aws_D G n S) hS k 1 (by rw [aws_get hk, am_cE_bool ht]) rfl (inb_in hin) hd (fun H1 locs1 hP1 _ hS1 => ?_)
  rw [aws_set (S := S) (S' := stI S k i.toNatClampNeg (vp_nar .boolean x)) (by rw [am_cE_bool ht, stI_self]) (fun a ha => am_cE_congr (stI_ne ha) rfl rfl)] at hP1
  exact kk p e s m args below meth c H1 locs1 ls C hn hS1 ⟨hW.1, hP1, am_old C.2.2.2.2.2.2.2.2.2 hS1⟩ hl
theorem Go.alenI {k : Nat} (pc' : Nat) (hp : pc + 1 = pc') (hd : decode M.1 pc = .ok (.arraylength, 1)) (hk : k < n) (ht : (SH k).1 = 7) (kk : Go G l R Tm M n cells slots pc' lv (.int (Int32.ofNat (SH k).2) :: st) S) : Go G l R Tm M n cells slots pc lv (.ref k :: st) S := by
  subst hp
  intro p e s m args below meth c H locs ls C hn hS hW hl
  have hq : qa G k = gB G + k := qa_own (by have := hW.1; omega)
  show W p l e R s m args below meth c H locs cells slots (Tm below args s) (F0 m pc ls (.ref (qa G k) :: st.map (cV G)))
  rw [hq]
  exact va_alen (x := ((SH k).2, .inl (S.1 k))) C.1 C.2.1 C.2.2.2.2.2.2.2.2.1.1 hW.2.1 k 0 (by rw [aws_get hk, am_cE_int ht]) rfl rfl hd (kk p e s m args below meth c H locs ls C hn hS hW hl)
theorem Go.alenR {k : Nat} (pc' : Nat) (hp : pc + 1 = pc') (hd : decode M.1 pc = .ok (.arraylength, 1)) (hk : k < n) (ht : (SH k).1 = 9) (kk : Go G l R Tm M n cells slots pc' lv (.int (Int32.ofNat (SH k).2) :: st) S) : Go G l R Tm M n cells slots pc lv (.ref k :: st) S := by
  subst hp
  intro p e s m args below meth c H locs ls C hn hS hW hl
  have hq : qa G k = gB G + k := qa_own (by have := hW.1; omega)
  show W p l e R s m args below meth c H locs cells slots (Tm below args s) (F0 m pc ls (.ref (qa G k) :: st.map (cV G)))
  rw [hq]
  exact va_alen (x := ((SH k).2, .inr (.inr (.inr (.inr (fun i => (S.2.2 k i).map (qa G))))))) C.1 C.2.1 C.2.2.2.2.2.2.2.2.1.1 hW.2.1 k 2 (by rw [aws_get hk, am_cE_rows ht]) rfl rfl hd (kk p e s m args below meth c H locs ls C hn hS hW hl)
def cpok (sp dp c : Int32) (n0 n1 : Nat) : Bool := !decide (sp < 0) && !decide (dp < 0) && !decide (c < 0) && decide (sp.toNatClampNeg + c.toNatClampNeg ≤ n0) && decide (dp.toNatClampNeg + c.toNatClampNeg ≤ n1)
theorem Go.acpy {k0 k1 ix : Nat} {sp dp c0 : Int32} (pc' : Nat) (hp : pc + 3 = pc') (hd : decode M.1 pc = .ok (.invokestatic ix, 3)) (hlk : Cond.methodLink M.2.2.2.1 ix arraycopyName ∈ lw_g) (hnat : Cond.native arraycopyName ∈ lw_g) (hstt : Cond.static arraycopyName ∈ lw_g) (hini : Cond.initialized "java/lang/System" ∈ lw_g) (hk0 : k0 < n) (ht0 : (SH k0).1 = 7) (hk1 : k1 < n) (ht1 : (SH k1).1 = 7) (hin : cpok sp dp c0 (SH k0).2 (SH k1).2 = true) (hfr : 1 ≤ R.frames) (hlo : (st.map fun v => v.category).sum + (nativeFrameWords "java/lang/System" "arraycopy" 5 + 11) ≤ R.locals) (kk : Go G l R Tm M n cells slots pc' lv st (stRow S k1 (va_cpy (S.1 k0) (S.1 k1) sp.toNatClampNeg dp.toNatClampNeg c0.toNatClampNeg))) : Go G l R Tm M n cells slots pc lv (.int c0 :: .int dp :: .ref k1 :: .int sp :: .ref k0 :: st) S := by
  subst hp
  intro p e s m args below meth c H locs ls C hn hS hW hl
  have hq : qa G k0 = gB G + k0 := qa_own (by have := hW.1; omega)
  have hq1 : qa G k1 = gB G + k1 := qa_own (by have := hW.1; omega)
  simp [cpok] at hin
  obtain ⟨⟨⟨⟨i1, i2⟩, i3⟩, i4⟩, i5⟩ := hin
  have hcat : ((st.map (cV G)).map fun v => v.category).sum = (st.map fun v => v.category).sum := by
    rw [List.map_map]
    congr 1
    apply List.map_congr_left
    intro v _
    exact cV_cat G v
  show W p l e R s m args below meth c H locs cells slots (Tm below args s) (F0 m pc ls (.int c0 :: .int dp :: .ref (qa G k1) :: .int sp :: .ref (qa G k0) :: st.map (cV G)))
  rw [hq, hq1]
  refine va_copyi C.1 C.2.1 (C.2.2.1.trans hl.1.symm) C.2.2.2.2.1 (C.2.2.2.2.2.2.2.1 _ hlk) (C.2.2.2.2.2.2.2.1 _ hnat) (C.2.2.2.2.2.2.2.1 _ hstt) (C.2.2.2.2.2.2.2.1 _ hini) C.2.2.2.2.2.2.2.2.1.1 hW.2.1 (aws_D G n S) hS k0 k1 0 0 (ty := .int) (by rw [aws_get hk0, am_cE_int ht0]) (by rw [aws_get hk1, am_cE_int ht1]) rfl rfl rfl (by simpa using i1) (by simpa using i2) (by simpa using i3) i4 i5 (fun i hi => rfl) hfr (by rw [hcat]; exact hlo) hd (fun H1 locs1 hP1 _ hS1 => ?_)
  rw [aws_set (S := S) (S' := stRow S k1 (va_cpy (S.1 k0) (S.1 k1) sp.toNatClampNeg dp.toNatClampNeg c0.toNatClampNeg)) (by rw [am_cE_int ht1]; simp [stRow]) (fun a ha => am_cE_congr (by simp [stRow, ha]) rfl rfl)] at hP1
  exact kk p e s m args below meth c H1 locs1 ls C hn hS1 ⟨hW.1, hP1, am_old C.2.2.2.2.2.2.2.2.2 hS1⟩ hl
/-! the letters -/
theorem Go.gets {ix : Nat} (pc' : Nat) (hp : pc + 3 = pc') (hd : decode M.1 pc = .ok (.getstatic ix, 3)) (hlk : Cond.fieldLink M.2.2.2.1 ix "LostQuestions$Kinds" "LETTERS" "[I" ∈ lw_g) (kk : Go G l R Tm M n cells slots pc' lv (.ref 1001 :: st) S) : Go G l R Tm M n cells slots pc lv st S := by
  subst hp
  intro p e s m args below meth c H locs ls C hn hS hW hl
  have hZ := (C.2.2.2.2.2.2.2.2.1.2.2.2.2.2.1).kept (H1 := s.heap) (fun a ha _ => C.2.2.2.2.2.2.2.2.2 a ha)
  exact va_gets C.1 C.2.1 hZ hS C.2.2.2.2.1 (C.2.2.2.2.2.2.2.1 _ hlk) (fun _ h9 => h9) hd (kk p e s m args below meth c H locs ls C hn hS hW hl)
theorem Go.ildT {i : Int32} (pc' : Nat) (hp : pc + 1 = pc') (hd : decode M.1 pc = .ok (.iaload, 1)) (hin : inb i 6 = true) (kk : Go G l R Tm M n cells slots pc' lv (.int (am_let i.toNatClampNeg) :: st) S) : Go G l R Tm M n cells slots pc lv (.int i :: .ref 1001 :: st) S := by
  subst hp
  intro p e s m args below meth c H locs ls C hn hS hW hl
  have hT := (C.2.2.2.2.2.2.2.2.1.2.2.2.2.2.2).kept (H1 := s.heap) (fun a ha _ => C.2.2.2.2.2.2.2.2.2 a ha)
  exact va_ti C.1 C.2.1 hT hS (inb_in hin) rfl hd (kk p e s m args below meth c H locs ls C hn hS hW hl)
end GH
end
section
/-! Contracts over the abstract machine; returns; calls. -/
def aQ (G : aG) (r : Option Value) (n' : Nat) (S' : aSt) : Array Value → State → Outcome → State → Prop := fun _ _ o t => o = .returned (r.map (cV G)) ∧ aW G n' S' t.heap
def TmR (G : aG) (r : Option Value) (n' : Nat) (S' : aSt) (mc ms : Nat) : List Frame → Array Value → State → State → Prop := fun below args s => MQ below (aQ G r n' S') args s mc ms (gA G)
def aPc (G : aG) (n : Nat) (S : aSt) (As : List Value) : Array Value → State → Prop := va_Pc (As.map (cV G)) (fun U => U.heap.size = gB G + n ∧ aK G U ∧ aW G n S U.heap)
def Ctr (G : aG) (l : Launch) (y : MethodName) (M : aM) (rm : Room) (n n' : Nat) (S : aSt) (As : List Value) (r : Option Value) (S' : aSt) : Prop :=
  Met l y (.code y M.1 M.2.1 M.2.2.1 :: lw_g) rm (aPc G n S As) (aQ G r n' S') rm.cells rm.slots (gA G)
theorem lg_sl_len (G : aG) (As : List Value) : (lg_sl (As.map (cV G))).length = (lg_sl As).length := by
  induction As with
  | nil => rfl
  | cons v vs ih =>
    simp only [lg_sl, List.map_cons, List.flatMap_cons, List.length_append] at ih ⊢
    rw [ih]
    congr 1
    cases v <;> rfl
theorem lv_args_map (G : aG) : ∀ (As : List Value) (i : Nat), lv_args i (As.map (cV G)) = (lv_args i As).map (cL G)
  | [], _ => rfl
  | v :: vs, i => by
    simp only [List.map_cons, lv_args, cV_cat]
    rw [lv_args_map G vs]
    rfl
theorem Ctr.of {G : aG} {l : Launch} {y : MethodName} {M : aM} {rm : Room} {n n' : Nat} {S S' : aSt} {As : List Value} {r : Option Value} (hy : plainName y.cls = true) (hc : M.2.2.2.1 = y.cls) (hm : M.2.2.2.2 = y.name) (hl : (lg_sl As).length ≤ M.2.1) (lv : List (Nat × Value)) (hlv : lv_args 0 As = lv)
    (k : Go G l rm (TmR G r n' S' rm.cells rm.slots) M n 0 0 0 lv [] S) : Ctr G l y M rm n n' S As r S' := by
  subst hlv
  refine Met.ofW (cc := M.1) (maxL := M.2.1) (ret := M.2.2.1) hy rfl ?_
  intro p e s m args below meth c s₁ B hml hv
  obtain ⟨rfl, hsz, hK, hW⟩ := hv
  have hts := atoms_spec (ws := .code y M.1 M.2.1 M.2.2.1 :: lw_g) B.pre
  have hl' := lv_entry (As.map (cV G)) (n := M.2.1) (by rw [lg_sl_len]; exact hl)
  rw [lv_args_map] at hl'
  rw [lg_entry_eq]
  exact k p e s m _ below meth c s.heap [] _ ⟨B.exec, B.bytes, hml, B.returns, by rw [hc]; exact findClass_of_methodNamed B.named, by rw [hm]; exact (name_of_methodNamed B.named B.method).1, B.notSynchronized, fun w hw => hts w (List.mem_cons_of_mem _ hw), hK, hW.2.2⟩ (by rw [hsz]; rfl) va_S.rf hW hl'
theorem aPc_blind (G : aG) (n : Nat) (S : aSt) (As : List Value) : FrameBlind (aPc G n S As) := by
  intro a U g mk q
  obtain ⟨h1, h2, h3, h4⟩ := q
  exact ⟨h1, h2, h3.moved (State.WarmedH.refl U), h4⟩
section GC
variable {G : aG} {l : Launch} {R : Room} {Tm : List Frame → Array Value → State → State → Prop} {M : aM} {n cells slots pc : Nat} {lv : List (Nat × Value)} {st : List Value} {S : aSt}
theorem Go.iret {x : Int32} (hr : M.2.2.1 = some .int) (hd : decode M.1 pc = .ok (.ireturn, 1)) : Go G l R (TmR G (some (.int x)) n S cells slots) M n cells slots pc lv [.int x] S := by
  intro p e s m args below meth c H locs ls C hn hS hW hl
  exact W.iret C.1 C.2.1 (C.2.2.2.1.trans hr) (fun t ht _ => ⟨rfl, by rw [ht]; exact hW⟩) hS.2.2 hd C.2.2.2.2.2.2.1
theorem Go.zret {x : Int32} (hr : M.2.2.1 = some .boolean) (hx : x = 0 ∨ x = 1) (hd : decode M.1 pc = .ok (.ireturn, 1)) : Go G l R (TmR G (some (.int x)) n S cells slots) M n cells slots pc lv [.int x] S := by
  intro p e s m args below meth c H locs ls C hn hS hW hl
  exact W.zret C.1 C.2.1 (C.2.2.2.1.trans hr) (by rcases hx with rfl | rfl <;> rfl) (fun t ht _ => ⟨rfl, by rw [ht]; exact hW⟩) hS.2.2 hd C.2.2.2.2.2.2.1
theorem Go.lret {x : Int64} (hr : M.2.2.1 = some .long) (hd : decode M.1 pc = .ok (.lreturn, 1)) : Go G l R (TmR G (some (.long x)) n S cells slots) M n cells slots pc lv [.long x] S := by
  intro p e s m args below meth c H locs ls C hn hS hW hl
  exact W.lret C.1 C.2.1 (C.2.2.2.1.trans hr) (fun t ht _ => ⟨rfl, by rw [ht]; exact hW⟩) hS.2.2 hd C.2.2.2.2.2.2.1
theorem Go.vret (hr : M.2.2.1 = none) (hd : decode M.1 pc = .ok (.return_, 1)) : Go G l R (TmR G none n S cells slots) M n cells slots pc lv [] S := by
  intro p e s m args below meth c H locs ls C hn hS hW hl
  exact W.vret C.1 C.2.1 (C.2.2.2.1.trans hr) (fun t ht _ => ⟨rfl, by rw [ht]; exact hW⟩) hS.2.2 hd C.2.2.2.2.2.2.1
theorem am_cat (G : aG) (st : List Value) : ((st.map (cV G)).map fun v => v.category).sum = (st.map fun v => v.category).sum := by
  rw [List.map_map]
  congr 1
  apply List.map_congr_left
  intro v _
  exact cV_cat G v
theorem aW_size {G : aG} {n cells : Nat} {S : aSt} {s : State} {H : Heap} {locs : List Loc} (hn : s.heap.size + cells = gB G + n) (hS : va_S (gA G) s.heap H locs) (hW : aW G n S H) (hb : ∀ a, a < gB G → s.heap[a]? = G.1[a]?) (h : H.size ≤ s.heap.size + cells) : H.size = gB G + n := by
  cases n with
  | zero =>
    have h1 : gB G ≤ H.size := by
      rcases Nat.lt_or_ge H.size (gB G) with q | q
      · have h2 := am_old hb hS H.size q
        rw [show G.1[H.size]? = some (G.1[H.size]'q) from Array.getElem?_eq_getElem q] at h2
        exact absurd (Array.getElem?_eq_some_iff.mp h2).1 (Nat.lt_irrefl _)
      · exact q
    omega
  | succ k =>
    have h1 := (hW.2.1 k _ (aws_get (Nat.lt_succ_self k))).lt
    dsimp only at h1
    omega
/-- what a call does, once the kit has run it -/
theorem Go.run {rm : Room} {n' : Nat} {r : Option Value} {S' : aSt} {As st0 : List Value} {pc' : Nat} (hp : pc + 3 = pc') (hn' : n' = n + rm.cells)
    (hr : ∀ (p : Program) (e : Env) (s : State) (m : MethodId) (args : Array Value) (below : List Frame) (meth : Method) (c : Code) (H : Heap) (locs : List Loc) (ls : Array Slot), aC G M p s m args meth c → s.heap.size + cells = gB G + n → va_S (gA G) s.heap H locs → aW G n S H → lv_has ls M.2.1 (lv.map (cL G)) → (∀ U : State, U.heap = H → s.WarmedH U.vm → H.size ≤ s.heap.size + cells → aPc G n S As (As.map (cV G)).toArray U) → H.size ≤ s.heap.size + cells →
      va_Run p l e R s m args below meth c H locs cells slots rm.cells rm.slots (F0 m pc ls (st0.map (cV G))) (st.map (cV G)) (aQ G r n' S' (As.map (cV G)).toArray) (gA G))
    (kk : Go G l R Tm M n' (cells + rm.cells) (slots + rm.slots) pc' lv (r.toList ++ st) S') : Go G l R Tm M n cells slots pc lv st0 S := by
  subst hp
  intro p e s m args below meth c H locs ls C hn hS hW hl
  refine w_size (fun hz => ?_)
  have hsz := aW_size hn hS hW C.2.2.2.2.2.2.2.2.2 hz
  have hrun := hr p e s m args below meth c H locs ls C hn hS hW hl (fun U hU hWm _ => ⟨rfl, by rw [hU]; exact hsz, C.2.2.2.2.2.2.2.2.1.moved hWm, by rw [hU]; exact hW⟩) hz
  intro T hT X
  obtain ⟨v, st₀, t, T', L, h0, X', hL, e1, e2, ⟨hv, hq⟩, stp⟩ := hrun T hT X
  have hv' : v = r.map (cV G) := by
    injection hv
  subst hv'
  rw [← e1] at hq
  have hsz' : H.size ≤ T'.heap.size := by
    subst hn'
    cases hc : n + rm.cells with
    | zero =>
      have h1 : gB G ≤ T'.heap.size := by
        rcases Nat.lt_or_ge T'.heap.size (gB G) with q | q
        · have h2 := hq.2.2 T'.heap.size q
          rw [show G.1[T'.heap.size]? = some (G.1[T'.heap.size]'q) from Array.getElem?_eq_getElem q] at h2
          exact absurd (Array.getElem?_eq_some_iff.mp h2).1 (Nat.lt_irrefl _)
        · exact q
      omega
    | succ k =>
      rw [hc] at hq
      have h1 := (hq.2.1 k _ (aws_get (Nat.lt_succ_self k))).lt
      dsimp only at h1
      omega
  obtain ⟨t2, a1, b1⟩ := kk p e s m args below meth c T'.heap (locs ++ L) ls C (by subst hn'; omega) ⟨Nat.le_trans hS.1 hsz', fun q h1 h2 => by
      rw [hq.2.2 q (by show q < gB G; exact Nat.lt_of_not_le h2), C.2.2.2.2.2.2.2.2.2 q (Nat.lt_of_not_le h2)], fun q hq' => by
      rcases List.mem_append.mp hq' with h | h
      · exact hS.2.2 q h
      · exact hL q h⟩ hq hl T' rfl X'
  refine ⟨t2, stp t2 ?_, b1⟩
  have hst : (r.toList ++ st).map (cV G) = (r.map (cV G)).toList ++ st.map (cV G) := by
    cases r <;> rfl
  rw [hst] at a1
  exact a1
theorem am_good {w : Cond} (h : w ∈ lw_g) : w ∈ lw_g ∧ ((w.onTables && w.keeps) = true ∨ ∃ ty, w = .arrayClass ty) := ⟨h, good_of_word (List.mem_filter.mp h).2⟩
theorem am_goodIn {ws : List Cond} (h : ∀ w ∈ ws, w ∈ lw_g) : GoodIn lw_g ws := fun w hw => am_good (h w hw)
/-- the words of a virtual call -/
def aCV (own : String) (ix : Nat) (y : MethodName) (tag : Nat) (M' : aM) (k : Nat) : Prop := (∃ (T : u_T) (N : Nat), vwCl[tag]? = some (y.cls, T, N)) ∧ Cond.methodLink own ix y ∈ lw_g ∧ Cond.instanceMethod y ∈ lw_g ∧ Cond.selects y.cls y y ∈ lw_g ∧ Cond.initialized y.cls ∈ lw_g ∧ Cond.code y M'.1 M'.2.1 M'.2.2.1 ∈ lw_g ∧ y.cls ≠ "java/lang/invoke/MethodHandle" ∧ y.cls ≠ "java/lang/invoke/VarHandle" ∧ (parseMethodDescriptor y.desc).map (fun d => d.parameters.length) = some k
def aCS (own : String) (ix : Nat) (y : MethodName) (M' : aM) (k : Nat) : Prop := Cond.methodLink own ix y ∈ lw_g ∧ Cond.static y ∈ lw_g ∧ Cond.initialized y.cls ∈ lw_g ∧ Cond.code y M'.1 M'.2.1 M'.2.2.1 ∈ lw_g ∧ y.cls ≠ "java/lang/invoke/MethodHandle" ∧ y.cls ≠ "java/lang/invoke/VarHandle" ∧ (parseMethodDescriptor y.desc).map (fun d => d.parameters.length) = some k
theorem Go.callV {y : MethodName} {M' : aM} {rm : Room} {ix k tag : Nat} {r : Option Value} {S' : aSt} {st0 : List Value} (pc' : Nat) (As st : List Value) (hp : pc + 3 = pc') (hd : decode M.1 pc = .ok (.invokevirtual ix, 3)) (hM : Ctr G l y M' rm n (n + rm.cells) S (.ref k :: As) r S') (hw : aCV M.2.2.2.1 ix y tag M' As.length) (hk : k < n) (ht : (SH k).1 = tag) (hR : rm.frames + 1 ≤ R.frames ∧ 8 + (M'.2.1 + 11) + rm.locals ≤ R.locals) (hc : cells + rm.cells ≤ R.cells ∧ slots + rm.slots ≤ R.slots) (hs : st0 = As.reverse ++ .ref k :: st) (hst : (st.map fun v => v.category).sum ≤ 8) (kk : Go G l R Tm M (n + rm.cells) (cells + rm.cells) (slots + rm.slots) pc' lv (r.toList ++ st) S') : Go G l R Tm M n cells slots pc lv st0 S := by
  subst hs
  refine Go.run (rm := rm) (As := .ref k :: As) (r := r) (S' := S') (st := st) hp rfl ?_ kk
  intro p e s m args below meth c H locs ls C hn hS hW hl hPc hz
  obtain ⟨⟨T, N, hcl⟩, w1, w2, w3, w4, w5, w6⟩ := hw
  have hq : qa G k = gB G + k := qa_own (by have := hW.1; omega)
  have hws : ∀ w ∈ wsV M.2.2.2.1 ix y.cls y (.code y M'.1 M'.2.1 M'.2.2.1 :: lw_g), w ∈ lw_g := by
    intro w h
    simp only [wsV, List.cons_append, List.nil_append, List.mem_cons] at h
    rcases h with rfl | rfl | rfl | rfl | rfl | h
    · exact w1
    · exact w2
    · exact w3
    · exact w4
    · exact w5
    · exact h
  have he : (aws G n S)[k]? = some (gB G + k, .inr (tag, am_fs G S k)) := by rw [aws_get hk, am_cE_obj ht (vw_lt hcl)]
  have hrec := va_recv (C.2.2.2.2.2.2.2.2.1.1) hW.2.1 hcl he
  refine va_runV (C := y.cls) (b := qa G k) (As := As.map (cV G)) (n := As.length) (Ts := lw_g) (own := M.2.2.2.1) (nL := M.2.1) (cc := M.1) ⟨C.1, C.2.1, C.2.2.1, C.2.2.2.2.1, C.2.2.2.2.2.2.2.1⟩ hM (cwV _ C.2.2.2.2.2.2.2.1 (am_goodIn hws) rfl rfl rfl ⟨rfl, w6⟩ hR) ⟨aPc_blind G n S _, by rw [hq]; exact hrec, fun U hU hWm => hPc U hU hWm hz⟩ rfl (by simp) hl.1 (by simp [List.map_reverse]; rfl) (lv_room (by rw [am_cat]; exact hst)) hd hc
theorem Go.callS {y : MethodName} {M' : aM} {rm : Room} {ix : Nat} {r : Option Value} {S' : aSt} {st0 : List Value} (pc' : Nat) (As st : List Value) (hp : pc + 3 = pc') (hd : decode M.1 pc = .ok (.invokestatic ix, 3)) (hM : Ctr G l y M' rm n (n + rm.cells) S As r S') (hw : aCS M.2.2.2.1 ix y M' As.length) (hR : rm.frames + 1 ≤ R.frames ∧ 8 + (M'.2.1 + 11) + rm.locals ≤ R.locals) (hc : cells + rm.cells ≤ R.cells ∧ slots + rm.slots ≤ R.slots) (hs : st0 = As.reverse ++ st) (hst : (st.map fun v => v.category).sum ≤ 8) (kk : Go G l R Tm M (n + rm.cells) (cells + rm.cells) (slots + rm.slots) pc' lv (r.toList ++ st) S') : Go G l R Tm M n cells slots pc lv st0 S := by
  subst hs
  refine Go.run (rm := rm) (As := As) (r := r) (S' := S') (st := st) hp rfl ?_ kk
  intro p e s m args below meth c H locs ls C hn hS hW hl hPc hz
  obtain ⟨w1, w2, w4, w5, w6⟩ := hw
  have hws : ∀ w ∈ va_wsS M.2.2.2.1 ix y (.code y M'.1 M'.2.1 M'.2.2.1 :: lw_g), w ∈ lw_g := by
    intro w h
    simp only [va_wsS, List.cons_append, List.nil_append, List.mem_cons] at h
    rcases h with rfl | rfl | rfl | rfl | h
    · exact w1
    · exact w2
    · exact w4
    · exact w5
    · exact h
  exact va_runS (As := As.map (cV G)) (n := As.length) (Ts := lw_g) (own := M.2.2.2.1) (nL := M.2.1) (cc := M.1) ⟨C.1, C.2.1, C.2.2.1, C.2.2.2.2.1, C.2.2.2.2.2.2.2.1⟩ hM (va_cwS _ C.2.2.2.2.2.2.2.1 (am_goodIn hws) rfl rfl rfl w6 hR) ⟨aPc_blind G n S _, fun U hU hWm => hPc U hU hWm hz⟩ rfl (by simp) hl.1 (by simp [List.map_reverse]) (lv_room (by rw [am_cat]; exact hst)) hd hc
end GC
end
