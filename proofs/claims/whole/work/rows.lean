section
-- ===== PART A: goes FIRST, ahead of the names: the tables' words, and 'selects' of the private methods out of them =====
/-- a private method of a class that the tables say can be made, by its rows of tables_1 -/
def lw_okq (q : MethodName × Nat) : Prop := (q.1.cls ≠ "java/lang/invoke/MethodHandle" ∧ q.1.cls ≠ "java/lang/invoke/VarHandle") ∧ Cond.instantiable q.1.cls q.2 ∈ tables_1 ∧ Cond.privateMethod q.1 ∈ tables_1 ∧ Cond.instanceMethod q.1 ∈ tables_1
theorem lw_p0 : lw_okq (⟨"LostQuestions", "found", "(I)I"⟩, 12) := ⟨⟨by decide +kernel, by decide +kernel⟩, List.mem_of_getElem? (i := 14) (by decide +kernel), List.mem_of_getElem? (i := 245) (by decide +kernel), List.mem_of_getElem? (i := 246) (by decide +kernel)⟩
theorem lw_p1 : lw_okq (⟨"LostQuestions$Library", "readQuestion", "(LLostQuestions$Row;I)I"⟩, 9) := ⟨⟨by decide +kernel, by decide +kernel⟩, List.mem_of_getElem? (i := 91) (by decide +kernel), List.mem_of_getElem? (i := 315) (by decide +kernel), List.mem_of_getElem? (i := 316) (by decide +kernel)⟩
theorem lw_p2 : lw_okq (⟨"LostQuestions$Library", "readCard", "(LLostQuestions$Row;I)I"⟩, 9) := ⟨⟨by decide +kernel, by decide +kernel⟩, List.mem_of_getElem? (i := 91) (by decide +kernel), List.mem_of_getElem? (i := 323) (by decide +kernel), List.mem_of_getElem? (i := 324) (by decide +kernel)⟩
theorem lw_p3 : lw_okq (⟨"LostQuestions$Library", "yesMeaning", "(I)I"⟩, 9) := ⟨⟨by decide +kernel, by decide +kernel⟩, List.mem_of_getElem? (i := 91) (by decide +kernel), List.mem_of_getElem? (i := 382) (by decide +kernel), List.mem_of_getElem? (i := 383) (by decide +kernel)⟩
theorem lw_p4 : lw_okq (⟨"LostQuestions$Library", "cardsOn", "(I)I"⟩, 9) := ⟨⟨by decide +kernel, by decide +kernel⟩, List.mem_of_getElem? (i := 91) (by decide +kernel), List.mem_of_getElem? (i := 387) (by decide +kernel), List.mem_of_getElem? (i := 388) (by decide +kernel)⟩
theorem lw_p5 : lw_okq (⟨"LostQuestions$Library", "placesSaying", "(I)I"⟩, 9) := ⟨⟨by decide +kernel, by decide +kernel⟩, List.mem_of_getElem? (i := 91) (by decide +kernel), List.mem_of_getElem? (i := 399) (by decide +kernel), List.mem_of_getElem? (i := 400) (by decide +kernel)⟩
theorem lw_p6 : lw_okq (⟨"LostQuestions$Matchings", "countAhead", "(LLostQuestions$Library;)V"⟩, 8) := ⟨⟨by decide +kernel, by decide +kernel⟩, List.mem_of_getElem? (i := 26) (by decide +kernel), List.mem_of_getElem? (i := 490) (by decide +kernel), List.mem_of_getElem? (i := 491) (by decide +kernel)⟩
theorem lw_p7 : lw_okq (⟨"LostQuestions$Matchings", "spreadAhead", "(III)V"⟩, 8) := ⟨⟨by decide +kernel, by decide +kernel⟩, List.mem_of_getElem? (i := 26) (by decide +kernel), List.mem_of_getElem? (i := 508) (by decide +kernel), List.mem_of_getElem? (i := 509) (by decide +kernel)⟩
theorem lw_p8 : lw_okq (⟨"LostQuestions$Matchings", "mostPairs", "()I"⟩, 8) := ⟨⟨by decide +kernel, by decide +kernel⟩, List.mem_of_getElem? (i := 26) (by decide +kernel), List.mem_of_getElem? (i := 512) (by decide +kernel), List.mem_of_getElem? (i := 513) (by decide +kernel)⟩
theorem lw_p9 : lw_okq (⟨"LostQuestions$Matchings", "countOn", "()V"⟩, 8) := ⟨⟨by decide +kernel, by decide +kernel⟩, List.mem_of_getElem? (i := 26) (by decide +kernel), List.mem_of_getElem? (i := 523) (by decide +kernel), List.mem_of_getElem? (i := 524) (by decide +kernel)⟩
theorem lw_p10 : lw_okq (⟨"LostQuestions$Matchings", "waysFrom", "(II)I"⟩, 8) := ⟨⟨by decide +kernel, by decide +kernel⟩, List.mem_of_getElem? (i := 26) (by decide +kernel), List.mem_of_getElem? (i := 527) (by decide +kernel), List.mem_of_getElem? (i := 528) (by decide +kernel)⟩
theorem lw_p11 : lw_okq (⟨"LostQuestions$Matchings", "firstFullest", "(II)I"⟩, 8) := ⟨⟨by decide +kernel, by decide +kernel⟩, List.mem_of_getElem? (i := 26) (by decide +kernel), List.mem_of_getElem? (i := 536) (by decide +kernel), List.mem_of_getElem? (i := 537) (by decide +kernel)⟩
theorem lw_p12 : lw_okq (⟨"LostQuestions$Matchings", "mostFrom", "(III)I"⟩, 8) := ⟨⟨by decide +kernel, by decide +kernel⟩, List.mem_of_getElem? (i := 26) (by decide +kernel), List.mem_of_getElem? (i := 553) (by decide +kernel), List.mem_of_getElem? (i := 554) (by decide +kernel)⟩
theorem lw_p13 : lw_okq (⟨"LostQuestions$Matchings", "firstWished", "(III)I"⟩, 8) := ⟨⟨by decide +kernel, by decide +kernel⟩, List.mem_of_getElem? (i := 26) (by decide +kernel), List.mem_of_getElem? (i := 557) (by decide +kernel), List.mem_of_getElem? (i := 558) (by decide +kernel)⟩
theorem lw_p14 : lw_okq (⟨"LostQuestions", "tellChances", "(JJ)V"⟩, 12) := ⟨⟨by decide +kernel, by decide +kernel⟩, List.mem_of_getElem? (i := 14) (by decide +kernel), List.mem_of_getElem? (i := 591) (by decide +kernel), List.mem_of_getElem? (i := 592) (by decide +kernel)⟩
theorem lw_p15 : lw_okq (⟨"LostQuestions$Parting", "countMeanings", "(LLostQuestions$Library;I)V"⟩, 7) := ⟨⟨by decide +kernel, by decide +kernel⟩, List.mem_of_getElem? (i := 60) (by decide +kernel), List.mem_of_getElem? (i := 620) (by decide +kernel), List.mem_of_getElem? (i := 621) (by decide +kernel)⟩
def lw_privs_1 : List (MethodName × Nat) := [(⟨"LostQuestions", "found", "(I)I"⟩, 12), (⟨"LostQuestions$Library", "readQuestion", "(LLostQuestions$Row;I)I"⟩, 9), (⟨"LostQuestions$Library", "readCard", "(LLostQuestions$Row;I)I"⟩, 9), (⟨"LostQuestions$Library", "yesMeaning", "(I)I"⟩, 9), (⟨"LostQuestions$Library", "cardsOn", "(I)I"⟩, 9), (⟨"LostQuestions$Library", "placesSaying", "(I)I"⟩, 9), (⟨"LostQuestions$Matchings", "countAhead", "(LLostQuestions$Library;)V"⟩, 8), (⟨"LostQuestions$Matchings", "spreadAhead", "(III)V"⟩, 8), (⟨"LostQuestions$Matchings", "mostPairs", "()I"⟩, 8), (⟨"LostQuestions$Matchings", "countOn", "()V"⟩, 8), (⟨"LostQuestions$Matchings", "waysFrom", "(II)I"⟩, 8), (⟨"LostQuestions$Matchings", "firstFullest", "(II)I"⟩, 8), (⟨"LostQuestions$Matchings", "mostFrom", "(III)I"⟩, 8), (⟨"LostQuestions$Matchings", "firstWished", "(III)I"⟩, 8), (⟨"LostQuestions", "tellChances", "(JJ)V"⟩, 12), (⟨"LostQuestions$Parting", "countMeanings", "(LLostQuestions$Library;I)V"⟩, 7)]
theorem lw_r1 : ∀ q ∈ lw_privs_1, lw_okq q := List.forall_mem_cons.mpr ⟨lw_p0, List.forall_mem_cons.mpr ⟨lw_p1, List.forall_mem_cons.mpr ⟨lw_p2, List.forall_mem_cons.mpr ⟨lw_p3, List.forall_mem_cons.mpr ⟨lw_p4, List.forall_mem_cons.mpr ⟨lw_p5, List.forall_mem_cons.mpr ⟨lw_p6, List.forall_mem_cons.mpr ⟨lw_p7, List.forall_mem_cons.mpr ⟨lw_p8, List.forall_mem_cons.mpr ⟨lw_p9, List.forall_mem_cons.mpr ⟨lw_p10, List.forall_mem_cons.mpr ⟨lw_p11, List.forall_mem_cons.mpr ⟨lw_p12, List.forall_mem_cons.mpr ⟨lw_p13, List.forall_mem_cons.mpr ⟨lw_p14, List.forall_mem_cons.mpr ⟨lw_p15, fun _ h => absurd h List.not_mem_nil⟩⟩⟩⟩⟩⟩⟩⟩⟩⟩⟩⟩⟩⟩⟩⟩
theorem lw_p16 : lw_okq (⟨"LostQuestions$Parting", "partFrom", "(III)V"⟩, 7) := ⟨⟨by decide +kernel, by decide +kernel⟩, List.mem_of_getElem? (i := 60) (by decide +kernel), List.mem_of_getElem? (i := 627) (by decide +kernel), List.mem_of_getElem? (i := 628) (by decide +kernel)⟩
theorem lw_p17 : lw_okq (⟨"LostQuestions$Parting", "fewestFor", "(II)I"⟩, 7) := ⟨⟨by decide +kernel, by decide +kernel⟩, List.mem_of_getElem? (i := 60) (by decide +kernel), List.mem_of_getElem? (i := 643) (by decide +kernel), List.mem_of_getElem? (i := 644) (by decide +kernel)⟩
theorem lw_p18 : lw_okq (⟨"LostQuestions$Library", "firstAlike", "(IIZ)I"⟩, 9) := ⟨⟨by decide +kernel, by decide +kernel⟩, List.mem_of_getElem? (i := 91) (by decide +kernel), List.mem_of_getElem? (i := 667) (by decide +kernel), List.mem_of_getElem? (i := 668) (by decide +kernel)⟩
theorem lw_p19 : lw_okq (⟨"LostQuestions$Library", "homeOf", "(I)I"⟩, 9) := ⟨⟨by decide +kernel, by decide +kernel⟩, List.mem_of_getElem? (i := 91) (by decide +kernel), List.mem_of_getElem? (i := 680) (by decide +kernel), List.mem_of_getElem? (i := 681) (by decide +kernel)⟩
theorem lw_p20 : lw_okq (⟨"LostQuestions$Library", "cardsOfOn", "(II)I"⟩, 9) := ⟨⟨by decide +kernel, by decide +kernel⟩, List.mem_of_getElem? (i := 91) (by decide +kernel), List.mem_of_getElem? (i := 684) (by decide +kernel), List.mem_of_getElem? (i := 685) (by decide +kernel)⟩
theorem lw_p21 : lw_okq (⟨"LostQuestions", "keptThere", "()I"⟩, 12) := ⟨⟨by decide +kernel, by decide +kernel⟩, List.mem_of_getElem? (i := 14) (by decide +kernel), List.mem_of_getElem? (i := 751) (by decide +kernel), List.mem_of_getElem? (i := 752) (by decide +kernel)⟩
theorem lw_p22 : lw_okq (⟨"LostQuestionsModel", "found", "(I)I"⟩, 21) := ⟨⟨by decide +kernel, by decide +kernel⟩, List.mem_of_getElem? (i := 782) (by decide +kernel), List.mem_of_getElem? (i := 864) (by decide +kernel), List.mem_of_getElem? (i := 865) (by decide +kernel)⟩
theorem lw_p23 : lw_okq (⟨"LostQuestionsModel", "tell", "(I)I"⟩, 21) := ⟨⟨by decide +kernel, by decide +kernel⟩, List.mem_of_getElem? (i := 782) (by decide +kernel), List.mem_of_getElem? (i := 872) (by decide +kernel), List.mem_of_getElem? (i := 873) (by decide +kernel)⟩
theorem lw_p24 : lw_okq (⟨"LostQuestionsModel", "reads", "(I)I"⟩, 21) := ⟨⟨by decide +kernel, by decide +kernel⟩, List.mem_of_getElem? (i := 782) (by decide +kernel), List.mem_of_getElem? (i := 908) (by decide +kernel), List.mem_of_getElem? (i := 909) (by decide +kernel)⟩
theorem lw_p25 : lw_okq (⟨"LostQuestionsModel", "byteAt", "(I)I"⟩, 21) := ⟨⟨by decide +kernel, by decide +kernel⟩, List.mem_of_getElem? (i := 782) (by decide +kernel), List.mem_of_getElem? (i := 914) (by decide +kernel), List.mem_of_getElem? (i := 915) (by decide +kernel)⟩
theorem lw_p26 : lw_okq (⟨"LostQuestionsModel", "takesQuestion", "(I)Z"⟩, 21) := ⟨⟨by decide +kernel, by decide +kernel⟩, List.mem_of_getElem? (i := 782) (by decide +kernel), List.mem_of_getElem? (i := 918) (by decide +kernel), List.mem_of_getElem? (i := 919) (by decide +kernel)⟩
theorem lw_p27 : lw_okq (⟨"LostQuestionsModel", "takes", "(IIII)Z"⟩, 21) := ⟨⟨by decide +kernel, by decide +kernel⟩, List.mem_of_getElem? (i := 782) (by decide +kernel), List.mem_of_getElem? (i := 922) (by decide +kernel), List.mem_of_getElem? (i := 923) (by decide +kernel)⟩
theorem lw_p28 : lw_okq (⟨"LostQuestionsModel", "takesCard", "(I)Z"⟩, 21) := ⟨⟨by decide +kernel, by decide +kernel⟩, List.mem_of_getElem? (i := 782) (by decide +kernel), List.mem_of_getElem? (i := 926) (by decide +kernel), List.mem_of_getElem? (i := 927) (by decide +kernel)⟩
theorem lw_p29 : lw_okq (⟨"LostQuestionsModel", "isCard", "(I)Z"⟩, 21) := ⟨⟨by decide +kernel, by decide +kernel⟩, List.mem_of_getElem? (i := 782) (by decide +kernel), List.mem_of_getElem? (i := 944) (by decide +kernel), List.mem_of_getElem? (i := 945) (by decide +kernel)⟩
theorem lw_p30 : lw_okq (⟨"LostQuestionsModel", "toldCard", "(II)I"⟩, 21) := ⟨⟨by decide +kernel, by decide +kernel⟩, List.mem_of_getElem? (i := 782) (by decide +kernel), List.mem_of_getElem? (i := 948) (by decide +kernel), List.mem_of_getElem? (i := 949) (by decide +kernel)⟩
theorem lw_p31 : lw_okq (⟨"LostQuestionsModel", "means", "(I)I"⟩, 21) := ⟨⟨by decide +kernel, by decide +kernel⟩, List.mem_of_getElem? (i := 782) (by decide +kernel), List.mem_of_getElem? (i := 952) (by decide +kernel), List.mem_of_getElem? (i := 953) (by decide +kernel)⟩
def lw_privs_2 : List (MethodName × Nat) := [(⟨"LostQuestions$Parting", "partFrom", "(III)V"⟩, 7), (⟨"LostQuestions$Parting", "fewestFor", "(II)I"⟩, 7), (⟨"LostQuestions$Library", "firstAlike", "(IIZ)I"⟩, 9), (⟨"LostQuestions$Library", "homeOf", "(I)I"⟩, 9), (⟨"LostQuestions$Library", "cardsOfOn", "(II)I"⟩, 9), (⟨"LostQuestions", "keptThere", "()I"⟩, 12), (⟨"LostQuestionsModel", "found", "(I)I"⟩, 21), (⟨"LostQuestionsModel", "tell", "(I)I"⟩, 21), (⟨"LostQuestionsModel", "reads", "(I)I"⟩, 21), (⟨"LostQuestionsModel", "byteAt", "(I)I"⟩, 21), (⟨"LostQuestionsModel", "takesQuestion", "(I)Z"⟩, 21), (⟨"LostQuestionsModel", "takes", "(IIII)Z"⟩, 21), (⟨"LostQuestionsModel", "takesCard", "(I)Z"⟩, 21), (⟨"LostQuestionsModel", "isCard", "(I)Z"⟩, 21), (⟨"LostQuestionsModel", "toldCard", "(II)I"⟩, 21), (⟨"LostQuestionsModel", "means", "(I)I"⟩, 21)]
theorem lw_r2 : ∀ q ∈ lw_privs_2, lw_okq q := List.forall_mem_cons.mpr ⟨lw_p16, List.forall_mem_cons.mpr ⟨lw_p17, List.forall_mem_cons.mpr ⟨lw_p18, List.forall_mem_cons.mpr ⟨lw_p19, List.forall_mem_cons.mpr ⟨lw_p20, List.forall_mem_cons.mpr ⟨lw_p21, List.forall_mem_cons.mpr ⟨lw_p22, List.forall_mem_cons.mpr ⟨lw_p23, List.forall_mem_cons.mpr ⟨lw_p24, List.forall_mem_cons.mpr ⟨lw_p25, List.forall_mem_cons.mpr ⟨lw_p26, List.forall_mem_cons.mpr ⟨lw_p27, List.forall_mem_cons.mpr ⟨lw_p28, List.forall_mem_cons.mpr ⟨lw_p29, List.forall_mem_cons.mpr ⟨lw_p30, List.forall_mem_cons.mpr ⟨lw_p31, fun _ h => absurd h List.not_mem_nil⟩⟩⟩⟩⟩⟩⟩⟩⟩⟩⟩⟩⟩⟩⟩⟩
theorem lw_p32 : lw_okq (⟨"LostQuestionsModel", "answers", "(I)I"⟩, 21) := ⟨⟨by decide +kernel, by decide +kernel⟩, List.mem_of_getElem? (i := 782) (by decide +kernel), List.mem_of_getElem? (i := 956) (by decide +kernel), List.mem_of_getElem? (i := 957) (by decide +kernel)⟩
theorem lw_p33 : lw_okq (⟨"LostQuestionsModel", "isQuestion", "(I)Z"⟩, 21) := ⟨⟨by decide +kernel, by decide +kernel⟩, List.mem_of_getElem? (i := 782) (by decide +kernel), List.mem_of_getElem? (i := 964) (by decide +kernel), List.mem_of_getElem? (i := 965) (by decide +kernel)⟩
theorem lw_p34 : lw_okq (⟨"LostQuestionsModel", "isFit", "(II)Z"⟩, 21) := ⟨⟨by decide +kernel, by decide +kernel⟩, List.mem_of_getElem? (i := 782) (by decide +kernel), List.mem_of_getElem? (i := 975) (by decide +kernel), List.mem_of_getElem? (i := 976) (by decide +kernel)⟩
theorem lw_p35 : lw_okq (⟨"LostQuestionsModel", "suits", "(IIII)Z"⟩, 21) := ⟨⟨by decide +kernel, by decide +kernel⟩, List.mem_of_getElem? (i := 782) (by decide +kernel), List.mem_of_getElem? (i := 979) (by decide +kernel), List.mem_of_getElem? (i := 980) (by decide +kernel)⟩
theorem lw_p36 : lw_okq (⟨"LostQuestionsModel", "puts", "(II)I"⟩, 21) := ⟨⟨by decide +kernel, by decide +kernel⟩, List.mem_of_getElem? (i := 782) (by decide +kernel), List.mem_of_getElem? (i := 987) (by decide +kernel), List.mem_of_getElem? (i := 988) (by decide +kernel)⟩
theorem lw_p37 : lw_okq (⟨"LostQuestionsModel", "isFree", "(I)Z"⟩, 21) := ⟨⟨by decide +kernel, by decide +kernel⟩, List.mem_of_getElem? (i := 782) (by decide +kernel), List.mem_of_getElem? (i := 1008) (by decide +kernel), List.mem_of_getElem? (i := 1009) (by decide +kernel)⟩
theorem lw_p38 : lw_okq (⟨"LostQuestionsModel", "isFreeCard", "(I)Z"⟩, 21) := ⟨⟨by decide +kernel, by decide +kernel⟩, List.mem_of_getElem? (i := 782) (by decide +kernel), List.mem_of_getElem? (i := 1012) (by decide +kernel), List.mem_of_getElem? (i := 1013) (by decide +kernel)⟩
theorem lw_p39 : lw_okq (⟨"LostQuestionsModel", "takesIt", "(II)V"⟩, 21) := ⟨⟨by decide +kernel, by decide +kernel⟩, List.mem_of_getElem? (i := 782) (by decide +kernel), List.mem_of_getElem? (i := 1016) (by decide +kernel), List.mem_of_getElem? (i := 1017) (by decide +kernel)⟩
theorem lw_p40 : lw_okq (⟨"LostQuestionsModel", "stands", "(I)I"⟩, 21) := ⟨⟨by decide +kernel, by decide +kernel⟩, List.mem_of_getElem? (i := 782) (by decide +kernel), List.mem_of_getElem? (i := 1020) (by decide +kernel), List.mem_of_getElem? (i := 1021) (by decide +kernel)⟩
theorem lw_p41 : lw_okq (⟨"LostQuestionsModel", "standing", "(I)I"⟩, 21) := ⟨⟨by decide +kernel, by decide +kernel⟩, List.mem_of_getElem? (i := 782) (by decide +kernel), List.mem_of_getElem? (i := 1036) (by decide +kernel), List.mem_of_getElem? (i := 1037) (by decide +kernel)⟩
theorem lw_p42 : lw_okq (⟨"LostQuestionsModel", "layMatchings", "(Z)V"⟩, 21) := ⟨⟨by decide +kernel, by decide +kernel⟩, List.mem_of_getElem? (i := 782) (by decide +kernel), List.mem_of_getElem? (i := 1053) (by decide +kernel), List.mem_of_getElem? (i := 1054) (by decide +kernel)⟩
theorem lw_p43 : lw_okq (⟨"LostQuestionsModel", "counts", "(I)V"⟩, 21) := ⟨⟨by decide +kernel, by decide +kernel⟩, List.mem_of_getElem? (i := 782) (by decide +kernel), List.mem_of_getElem? (i := 1057) (by decide +kernel), List.mem_of_getElem? (i := 1058) (by decide +kernel)⟩
theorem lw_p44 : lw_okq (⟨"LostQuestionsModel", "mayMatch", "(II)Z"⟩, 21) := ⟨⟨by decide +kernel, by decide +kernel⟩, List.mem_of_getElem? (i := 782) (by decide +kernel), List.mem_of_getElem? (i := 1061) (by decide +kernel), List.mem_of_getElem? (i := 1062) (by decide +kernel)⟩
theorem lw_p45 : lw_okq (⟨"LostQuestionsModel", "laid", "(I)I"⟩, 21) := ⟨⟨by decide +kernel, by decide +kernel⟩, List.mem_of_getElem? (i := 782) (by decide +kernel), List.mem_of_getElem? (i := 1065) (by decide +kernel), List.mem_of_getElem? (i := 1066) (by decide +kernel)⟩
theorem lw_p46 : lw_okq (⟨"LostQuestionsModel", "manyFit", "(III)I"⟩, 21) := ⟨⟨by decide +kernel, by decide +kernel⟩, List.mem_of_getElem? (i := 782) (by decide +kernel), List.mem_of_getElem? (i := 1106) (by decide +kernel), List.mem_of_getElem? (i := 1107) (by decide +kernel)⟩
theorem lw_p47 : lw_okq (⟨"LostQuestionsModel", "manyThere", "(III)I"⟩, 21) := ⟨⟨by decide +kernel, by decide +kernel⟩, List.mem_of_getElem? (i := 782) (by decide +kernel), List.mem_of_getElem? (i := 1130) (by decide +kernel), List.mem_of_getElem? (i := 1131) (by decide +kernel)⟩
def lw_privs_3 : List (MethodName × Nat) := [(⟨"LostQuestionsModel", "answers", "(I)I"⟩, 21), (⟨"LostQuestionsModel", "isQuestion", "(I)Z"⟩, 21), (⟨"LostQuestionsModel", "isFit", "(II)Z"⟩, 21), (⟨"LostQuestionsModel", "suits", "(IIII)Z"⟩, 21), (⟨"LostQuestionsModel", "puts", "(II)I"⟩, 21), (⟨"LostQuestionsModel", "isFree", "(I)Z"⟩, 21), (⟨"LostQuestionsModel", "isFreeCard", "(I)Z"⟩, 21), (⟨"LostQuestionsModel", "takesIt", "(II)V"⟩, 21), (⟨"LostQuestionsModel", "stands", "(I)I"⟩, 21), (⟨"LostQuestionsModel", "standing", "(I)I"⟩, 21), (⟨"LostQuestionsModel", "layMatchings", "(Z)V"⟩, 21), (⟨"LostQuestionsModel", "counts", "(I)V"⟩, 21), (⟨"LostQuestionsModel", "mayMatch", "(II)Z"⟩, 21), (⟨"LostQuestionsModel", "laid", "(I)I"⟩, 21), (⟨"LostQuestionsModel", "manyFit", "(III)I"⟩, 21), (⟨"LostQuestionsModel", "manyThere", "(III)I"⟩, 21)]
theorem lw_r3 : ∀ q ∈ lw_privs_3, lw_okq q := List.forall_mem_cons.mpr ⟨lw_p32, List.forall_mem_cons.mpr ⟨lw_p33, List.forall_mem_cons.mpr ⟨lw_p34, List.forall_mem_cons.mpr ⟨lw_p35, List.forall_mem_cons.mpr ⟨lw_p36, List.forall_mem_cons.mpr ⟨lw_p37, List.forall_mem_cons.mpr ⟨lw_p38, List.forall_mem_cons.mpr ⟨lw_p39, List.forall_mem_cons.mpr ⟨lw_p40, List.forall_mem_cons.mpr ⟨lw_p41, List.forall_mem_cons.mpr ⟨lw_p42, List.forall_mem_cons.mpr ⟨lw_p43, List.forall_mem_cons.mpr ⟨lw_p44, List.forall_mem_cons.mpr ⟨lw_p45, List.forall_mem_cons.mpr ⟨lw_p46, List.forall_mem_cons.mpr ⟨lw_p47, fun _ h => absurd h List.not_mem_nil⟩⟩⟩⟩⟩⟩⟩⟩⟩⟩⟩⟩⟩⟩⟩⟩
theorem lw_p48 : lw_okq (⟨"LostQuestionsModel", "manyHere", "(II)I"⟩, 21) := ⟨⟨by decide +kernel, by decide +kernel⟩, List.mem_of_getElem? (i := 782) (by decide +kernel), List.mem_of_getElem? (i := 1134) (by decide +kernel), List.mem_of_getElem? (i := 1135) (by decide +kernel)⟩
theorem lw_p49 : lw_okq (⟨"LostQuestionsModel", "lying", "(II)I"⟩, 21) := ⟨⟨by decide +kernel, by decide +kernel⟩, List.mem_of_getElem? (i := 782) (by decide +kernel), List.mem_of_getElem? (i := 1145) (by decide +kernel), List.mem_of_getElem? (i := 1146) (by decide +kernel)⟩
theorem lw_p50 : lw_okq (⟨"LostQuestionsModel", "counted", "(I)I"⟩, 21) := ⟨⟨by decide +kernel, by decide +kernel⟩, List.mem_of_getElem? (i := 782) (by decide +kernel), List.mem_of_getElem? (i := 1183) (by decide +kernel), List.mem_of_getElem? (i := 1184) (by decide +kernel)⟩
def lw_privs_4 : List (MethodName × Nat) := [(⟨"LostQuestionsModel", "manyHere", "(II)I"⟩, 21), (⟨"LostQuestionsModel", "lying", "(II)I"⟩, 21), (⟨"LostQuestionsModel", "counted", "(I)I"⟩, 21)]
theorem lw_r4 : ∀ q ∈ lw_privs_4, lw_okq q := List.forall_mem_cons.mpr ⟨lw_p48, List.forall_mem_cons.mpr ⟨lw_p49, List.forall_mem_cons.mpr ⟨lw_p50, fun _ h => absurd h List.not_mem_nil⟩⟩⟩
def lw_privs : List (MethodName × Nat) := lw_privs_1 ++ (lw_privs_2 ++ (lw_privs_3 ++ (lw_privs_4)))
def lw_tbl : List Cond := k2_sels lw_privs ++ tables_1
theorem lw_privs_ok : ∀ q ∈ lw_privs, lw_okq q := by
  show ∀ q ∈ lw_privs_1 ++ (lw_privs_2 ++ (lw_privs_3 ++ (lw_privs_4))), lw_okq q
  exact List.forall_mem_append.mpr ⟨lw_r1, List.forall_mem_append.mpr ⟨lw_r2, List.forall_mem_append.mpr ⟨lw_r3, lw_r4⟩⟩⟩
end
section
def RX0 : String := "LostQuestions$Kinds"
def TX0 : u_T := fun k => match k with
  | _ => ("", "", "", false)
def tyX0 : Nat → FieldType := fun k => match k with
  | _ => .int
abbrev wsX00 : List Cond := u_ws RX0 TX0 0
theorem nmX0 : ∀ a, a < 0 → ∀ b, b < 0 → a ≠ b → (TX0 a).2.1 ≠ (TX0 b).2.1 := by decide +kernel
theorem tyX0_ok : ∀ k, k < 0 → parseFieldDescriptor (TX0 k).2.2.1 = some (tyX0 k) := by decide +kernel
abbrev cX0_ofLetter : ByteArray := prog_2_method_2_code
def yX0_ofLetter : MethodName := ⟨RX0, "ofLetter", "(I)I"⟩
abbrev cX0_isA : ByteArray := prog_2_method_3_code
def yX0_isA : MethodName := ⟨RX0, "isA", "(II)Z"⟩
abbrev cX0_meaning : ByteArray := prog_2_method_4_code
def yX0_meaning : MethodName := ⟨RX0, "meaning", "(III)I"⟩
def RX1 : String := "LostQuestions$Library"
def TX1 : u_T := fun k => match k with
  | 0 => ("LostQuestions$Library", "kinds", "[I", true)
  | 1 => ("LostQuestions$Library", "says", "[I", true)
  | 2 => ("LostQuestions$Library", "asksFor", "[I", true)
  | 3 => ("LostQuestions$Library", "froms", "[I", true)
  | 4 => ("LostQuestions$Library", "tos", "[I", true)
  | 5 => ("LostQuestions$Library", "wishes", "[I", true)
  | 6 => ("LostQuestions$Library", "now", "LLostQuestions$Standing;", true)
  | 7 => ("LostQuestions$Library", "cards", "I", false)
  | _ => ("LostQuestions$Library", "questions", "I", false)
def tyX1 : Nat → FieldType := fun k => match k with
  | 0 => .array .int
  | 1 => .array .int
  | 2 => .array .int
  | 3 => .array .int
  | 4 => .array .int
  | 5 => .array .int
  | 6 => .object "LostQuestions$Standing"
  | 7 => .int
  | _ => .int
abbrev wsX10 : List Cond := u_ws RX1 TX1 9
theorem nmX1 : ∀ a, a < 9 → ∀ b, b < 9 → a ≠ b → (TX1 a).2.1 ≠ (TX1 b).2.1 := by decide +kernel
theorem tyX1_ok : ∀ k, k < 9 → parseFieldDescriptor (TX1 k).2.2.1 = some (tyX1 k) := by decide +kernel
abbrev cX1_init : ByteArray := prog_3_method_1_code
def yX1_init : MethodName := ⟨RX1, "<init>", "()V"⟩
abbrev cX1_readFrom : ByteArray := prog_3_method_2_code
def yX1_readFrom : MethodName := ⟨RX1, "readFrom", "(LLostQuestions$Row;)I"⟩
abbrev cX1_pastBlanks : ByteArray := prog_3_method_3_code
def yX1_pastBlanks : MethodName := ⟨RX1, "pastBlanks", "(LLostQuestions$Row;I)I"⟩
abbrev cX1_readCard : ByteArray := prog_3_method_4_code
def yX1_readCard : MethodName := ⟨RX1, "readCard", "(LLostQuestions$Row;I)I"⟩
abbrev cX1_readQuestion : ByteArray := prog_3_method_5_code
def yX1_readQuestion : MethodName := ⟨RX1, "readQuestion", "(LLostQuestions$Row;I)I"⟩
abbrev cX1_figure : ByteArray := prog_3_method_6_code
def yX1_figure : MethodName := ⟨RX1, "figure", "(LLostQuestions$Row;III)I"⟩
abbrev cX1_isCard : ByteArray := prog_3_method_7_code
def yX1_isCard : MethodName := ⟨RX1, "isCard", "(I)Z"⟩
abbrev cX1_isQuestion : ByteArray := prog_3_method_8_code
def yX1_isQuestion : MethodName := ⟨RX1, "isQuestion", "(I)Z"⟩
abbrev cX1_allCards : ByteArray := prog_3_method_9_code
def yX1_allCards : MethodName := ⟨RX1, "allCards", "()I"⟩
abbrev cX1_isFreeCard : ByteArray := prog_3_method_10_code
def yX1_isFreeCard : MethodName := ⟨RX1, "isFreeCard", "(I)Z"⟩
abbrev cX1_isFreeQuestion : ByteArray := prog_3_method_11_code
def yX1_isFreeQuestion : MethodName := ⟨RX1, "isFreeQuestion", "(I)Z"⟩
abbrev cX1_freeCards : ByteArray := prog_3_method_12_code
def yX1_freeCards : MethodName := ⟨RX1, "freeCards", "()I"⟩
abbrev cX1_answered : ByteArray := prog_3_method_13_code
def yX1_answered : MethodName := ⟨RX1, "answered", "()I"⟩
abbrev cX1_meaningOf : ByteArray := prog_3_method_14_code
def yX1_meaningOf : MethodName := ⟨RX1, "meaningOf", "(I)I"⟩
abbrev cX1_isFitting : ByteArray := prog_3_method_15_code
def yX1_isFitting : MethodName := ⟨RX1, "isFitting", "(II)Z"⟩
abbrev cX1_fittingCards : ByteArray := prog_3_method_16_code
def yX1_fittingCards : MethodName := ⟨RX1, "fittingCards", "(I)I"⟩
abbrev cX1_trueCards : ByteArray := prog_3_method_17_code
def yX1_trueCards : MethodName := ⟨RX1, "trueCards", "(I)I"⟩
abbrev cX1_questionsFitted : ByteArray := prog_3_method_18_code
def yX1_questionsFitted : MethodName := ⟨RX1, "questionsFitted", "(I)I"⟩
abbrev cX1_verdict : ByteArray := prog_3_method_19_code
def yX1_verdict : MethodName := ⟨RX1, "verdict", "(I)I"⟩
abbrev cX1_answeredWith : ByteArray := prog_3_method_20_code
def yX1_answeredWith : MethodName := ⟨RX1, "answeredWith", "(I)I"⟩
abbrev cX1_waysOfTruth : ByteArray := prog_3_method_21_code
def yX1_waysOfTruth : MethodName := ⟨RX1, "waysOfTruth", "(I)I"⟩
abbrev cX1_cardFact : ByteArray := prog_3_method_22_code
def yX1_cardFact : MethodName := ⟨RX1, "cardFact", "(II)I"⟩
abbrev cX1_questionFact : ByteArray := prog_3_method_23_code
def yX1_questionFact : MethodName := ⟨RX1, "questionFact", "(II)I"⟩
abbrev cX1_markOf : ByteArray := prog_3_method_24_code
def yX1_markOf : MethodName := ⟨RX1, "markOf", "(II)I"⟩
abbrev cX1_yesMeaning : ByteArray := prog_3_method_25_code
def yX1_yesMeaning : MethodName := ⟨RX1, "yesMeaning", "(I)I"⟩
abbrev cX1_cardsOn : ByteArray := prog_3_method_26_code
def yX1_cardsOn : MethodName := ⟨RX1, "cardsOn", "(I)I"⟩
abbrev cX1_placesSaying : ByteArray := prog_3_method_27_code
def yX1_placesSaying : MethodName := ⟨RX1, "placesSaying", "(I)I"⟩
abbrev cX1_placesAmong : ByteArray := prog_3_method_28_code
def yX1_placesAmong : MethodName := ⟨RX1, "placesAmong", "()I"⟩
abbrev cX1_pairsWith : ByteArray := prog_3_method_29_code
def yX1_pairsWith : MethodName := ⟨RX1, "pairsWith", "(LLostQuestions$Row;Z)I"⟩
abbrev cX1_firstAlike : ByteArray := prog_3_method_30_code
def yX1_firstAlike : MethodName := ⟨RX1, "firstAlike", "(IIZ)I"⟩
abbrev cX1_cardsOfOn : ByteArray := prog_3_method_31_code
def yX1_cardsOfOn : MethodName := ⟨RX1, "cardsOfOn", "(II)I"⟩
abbrev cX1_homeOf : ByteArray := prog_3_method_32_code
def yX1_homeOf : MethodName := ⟨RX1, "homeOf", "(I)I"⟩
abbrev cX1_strayCards : ByteArray := prog_3_method_33_code
def yX1_strayCards : MethodName := ⟨RX1, "strayCards", "()I"⟩
abbrev cX1_fewestMoved : ByteArray := prog_3_method_34_code
def yX1_fewestMoved : MethodName := ⟨RX1, "fewestMoved", "()I"⟩
abbrev cX1_mostStaying : ByteArray := prog_3_method_35_code
def yX1_mostStaying : MethodName := ⟨RX1, "mostStaying", "(LLostQuestions$Library;III)I"⟩
abbrev cX1_layByAge : ByteArray := prog_3_method_36_code
def yX1_layByAge : MethodName := ⟨RX1, "layByAge", "(LLostQuestions$Row;)V"⟩
abbrev cX1_cardByLot : ByteArray := prog_3_method_37_code
def yX1_cardByLot : MethodName := ⟨RX1, "cardByLot", "(IJ)I"⟩
abbrev cX1_foldInto : ByteArray := prog_3_method_38_code
def yX1_foldInto : MethodName := ⟨RX1, "foldInto", "(J)J"⟩
def RX2 : String := "LostQuestions$Matchings"
def TX2 : u_T := fun k => match k with
  | 0 => ("LostQuestions$Matchings", "pairable", "[I", true)
  | 1 => ("LostQuestions$Matchings", "waysAhead", "[I", true)
  | 2 => ("LostQuestions$Matchings", "waysOn", "[I", true)
  | 3 => ("LostQuestions$Matchings", "questions", "I", false)
  | 4 => ("LostQuestions$Matchings", "cards", "I", false)
  | 5 => ("LostQuestions$Matchings", "sets", "I", false)
  | 6 => ("LostQuestions$Matchings", "pairs", "I", false)
  | _ => ("LostQuestions$Matchings", "total", "I", false)
def tyX2 : Nat → FieldType := fun k => match k with
  | 0 => .array .int
  | 1 => .array .int
  | 2 => .array .int
  | 3 => .int
  | 4 => .int
  | 5 => .int
  | 6 => .int
  | _ => .int
abbrev wsX20 : List Cond := u_ws RX2 TX2 8
theorem nmX2 : ∀ a, a < 8 → ∀ b, b < 8 → a ≠ b → (TX2 a).2.1 ≠ (TX2 b).2.1 := by decide +kernel
theorem tyX2_ok : ∀ k, k < 8 → parseFieldDescriptor (TX2 k).2.2.1 = some (tyX2 k) := by decide +kernel
abbrev cX2_init : ByteArray := prog_4_method_1_code
def yX2_init : MethodName := ⟨RX2, "<init>", "()V"⟩
abbrev cX2_countIn : ByteArray := prog_4_method_2_code
def yX2_countIn : MethodName := ⟨RX2, "countIn", "(LLostQuestions$Library;)V"⟩
abbrev cX2_countAhead : ByteArray := prog_4_method_3_code
def yX2_countAhead : MethodName := ⟨RX2, "countAhead", "(LLostQuestions$Library;)V"⟩
abbrev cX2_spreadAhead : ByteArray := prog_4_method_4_code
def yX2_spreadAhead : MethodName := ⟨RX2, "spreadAhead", "(III)V"⟩
abbrev cX2_mostPairs : ByteArray := prog_4_method_5_code
def yX2_mostPairs : MethodName := ⟨RX2, "mostPairs", "()I"⟩
abbrev cX2_countOn : ByteArray := prog_4_method_6_code
def yX2_countOn : MethodName := ⟨RX2, "countOn", "()V"⟩
abbrev cX2_waysFrom : ByteArray := prog_4_method_7_code
def yX2_waysFrom : MethodName := ⟨RX2, "waysFrom", "(II)I"⟩
abbrev cX2_countWith : ByteArray := prog_4_method_8_code
def yX2_countWith : MethodName := ⟨RX2, "countWith", "(II)I"⟩
abbrev cX2_sureCard : ByteArray := prog_4_method_9_code
def yX2_sureCard : MethodName := ⟨RX2, "sureCard", "(I)I"⟩
abbrev cX2_layFullest : ByteArray := prog_4_method_10_code
def yX2_layFullest : MethodName := ⟨RX2, "layFullest", "(LLostQuestions$Row;)V"⟩
abbrev cX2_firstFullest : ByteArray := prog_4_method_11_code
def yX2_firstFullest : MethodName := ⟨RX2, "firstFullest", "(II)I"⟩
abbrev cX2_layMostWished : ByteArray := prog_4_method_12_code
def yX2_layMostWished : MethodName := ⟨RX2, "layMostWished", "(LLostQuestions$Library;LLostQuestions$Row;)I"⟩
abbrev cX2_mostFrom : ByteArray := prog_4_method_13_code
def yX2_mostFrom : MethodName := ⟨RX2, "mostFrom", "(III)I"⟩
abbrev cX2_firstWished : ByteArray := prog_4_method_14_code
def yX2_firstWished : MethodName := ⟨RX2, "firstWished", "(III)I"⟩
def RX3 : String := "LostQuestions$Parting"
def TX3 : u_T := fun k => match k with
  | 0 => ("LostQuestions$Parting", "meaning", "[I", true)
  | 1 => ("LostQuestions$Parting", "cardsOf", "[I", true)
  | 2 => ("LostQuestions$Parting", "fewestOf", "[I", true)
  | 3 => ("LostQuestions$Parting", "best", "I", false)
  | 4 => ("LostQuestions$Parting", "fitting", "I", false)
  | 5 => ("LostQuestions$Parting", "fewest", "I", false)
  | _ => ("LostQuestions$Parting", "leastRank", "I", false)
def tyX3 : Nat → FieldType := fun k => match k with
  | 0 => .array .int
  | 1 => .array .int
  | 2 => .array .int
  | 3 => .int
  | 4 => .int
  | 5 => .int
  | _ => .int
abbrev wsX30 : List Cond := u_ws RX3 TX3 7
theorem nmX3 : ∀ a, a < 7 → ∀ b, b < 7 → a ≠ b → (TX3 a).2.1 ≠ (TX3 b).2.1 := by decide +kernel
theorem tyX3_ok : ∀ k, k < 7 → parseFieldDescriptor (TX3 k).2.2.1 = some (tyX3 k) := by decide +kernel
abbrev cX3_init : ByteArray := prog_5_method_1_code
def yX3_init : MethodName := ⟨RX3, "<init>", "()V"⟩
abbrev cX3_partBest : ByteArray := prog_5_method_2_code
def yX3_partBest : MethodName := ⟨RX3, "partBest", "(LLostQuestions$Library;)V"⟩
abbrev cX3_countMeanings : ByteArray := prog_5_method_3_code
def yX3_countMeanings : MethodName := ⟨RX3, "countMeanings", "(LLostQuestions$Library;I)V"⟩
abbrev cX3_partFrom : ByteArray := prog_5_method_4_code
def yX3_partFrom : MethodName := ⟨RX3, "partFrom", "(III)V"⟩
abbrev cX3_findIn : ByteArray := prog_5_method_5_code
def yX3_findIn : MethodName := ⟨RX3, "findIn", "(LLostQuestions$Library;I)V"⟩
abbrev cX3_fewestFor : ByteArray := prog_5_method_6_code
def yX3_fewestFor : MethodName := ⟨RX3, "fewestFor", "(II)I"⟩
def RX4 : String := "LostQuestions$Row"
def TX4 : u_T := fun k => match k with
  | 0 => ("LostQuestions$Row", "places", "[I", true)
  | _ => ("LostQuestions$Row", "size", "I", false)
def tyX4 : Nat → FieldType := fun k => match k with
  | 0 => .array .int
  | _ => .int
abbrev wsX40 : List Cond := u_ws RX4 TX4 2
theorem nmX4 : ∀ a, a < 2 → ∀ b, b < 2 → a ≠ b → (TX4 a).2.1 ≠ (TX4 b).2.1 := by decide +kernel
theorem tyX4_ok : ∀ k, k < 2 → parseFieldDescriptor (TX4 k).2.2.1 = some (tyX4 k) := by decide +kernel
abbrev cX4_init : ByteArray := prog_6_method_1_code
def yX4_init : MethodName := ⟨RX4, "<init>", "(I)V"⟩
abbrev cX4_isThere : ByteArray := prog_6_method_2_code
def yX4_isThere : MethodName := ⟨RX4, "isThere", "()Z"⟩
abbrev cX4_reaches : ByteArray := prog_6_method_3_code
def yX4_reaches : MethodName := ⟨RX4, "reaches", "(I)Z"⟩
abbrev cX4_holds : ByteArray := prog_6_method_4_code
def yX4_holds : MethodName := ⟨RX4, "holds", "(II)Z"⟩
abbrev cX4_begin : ByteArray := prog_6_method_5_code
def yX4_begin : MethodName := ⟨RX4, "begin", "(II)V"⟩
abbrev cX4_layAt : ByteArray := prog_6_method_6_code
def yX4_layAt : MethodName := ⟨RX4, "layAt", "(II)V"⟩
abbrev cX4_foldInto : ByteArray := prog_6_method_7_code
def yX4_foldInto : MethodName := ⟨RX4, "foldInto", "(J)J"⟩
def RX5 : String := "LostQuestions$Standing"
def TX5 : u_T := fun k => match k with
  | 0 => ("LostQuestions$Standing", "shelves", "[I", true)
  | 1 => ("LostQuestions$Standing", "ages", "[I", true)
  | 2 => ("LostQuestions$Standing", "truths", "[I", true)
  | 3 => ("LostQuestions$Standing", "cardOf", "[I", true)
  | 4 => ("LostQuestions$Standing", "taken", "[I", true)
  | 5 => ("LostQuestions$Standing", "cardsAhead", "[I", true)
  | _ => ("LostQuestions$Standing", "takings", "I", false)
def tyX5 : Nat → FieldType := fun k => match k with
  | 0 => .array .int
  | 1 => .array .int
  | 2 => .array .int
  | 3 => .array .int
  | 4 => .array .int
  | 5 => .array .int
  | _ => .int
abbrev wsX50 : List Cond := u_ws RX5 TX5 7
theorem nmX5 : ∀ a, a < 7 → ∀ b, b < 7 → a ≠ b → (TX5 a).2.1 ≠ (TX5 b).2.1 := by decide +kernel
theorem tyX5_ok : ∀ k, k < 7 → parseFieldDescriptor (TX5 k).2.2.1 = some (tyX5 k) := by decide +kernel
abbrev cX5_init : ByteArray := prog_7_method_1_code
def yX5_init : MethodName := ⟨RX5, "<init>", "()V"⟩
abbrev cX5_begin : ByteArray := prog_7_method_2_code
def yX5_begin : MethodName := ⟨RX5, "begin", "()V"⟩
abbrev cX5_questionOf : ByteArray := prog_7_method_3_code
def yX5_questionOf : MethodName := ⟨RX5, "questionOf", "(I)I"⟩
abbrev cX5_addTaking : ByteArray := prog_7_method_4_code
def yX5_addTaking : MethodName := ⟨RX5, "addTaking", "(II)V"⟩
abbrev cX5_goBack : ByteArray := prog_7_method_5_code
def yX5_goBack : MethodName := ⟨RX5, "goBack", "(I)I"⟩
abbrev cX5_become : ByteArray := prog_7_method_6_code
def yX5_become : MethodName := ⟨RX5, "become", "(LLostQuestions$Standing;)V"⟩
def RX6 : String := "LostQuestions"
def TX6 : u_T := fun k => match k with
  | 0 => ("LostQuestions", "rows", "[LLostQuestions$Row;", true)
  | 1 => ("LostQuestions", "texts", "[LLostQuestions$Row;", true)
  | 2 => ("LostQuestions", "kept", "[LLostQuestions$Standing;", true)
  | 3 => ("LostQuestions", "findingCounts", "[I", true)
  | 4 => ("LostQuestions", "matchings", "LLostQuestions$Matchings;", true)
  | 5 => ("LostQuestions", "parting", "LLostQuestions$Parting;", true)
  | 6 => ("LostQuestions", "here", "LLostQuestions$Library;", false)
  | 7 => ("LostQuestions", "draft", "LLostQuestions$Library;", false)
  | 8 => ("LostQuestions", "told", "I", false)
  | 9 => ("LostQuestions", "chanceUpper", "J", false)
  | 10 => ("LostQuestions", "chanceLower", "J", false)
  | _ => ("LostQuestions", "latestFinding", "I", false)
def tyX6 : Nat → FieldType := fun k => match k with
  | 0 => .array (.object "LostQuestions$Row")
  | 1 => .array (.object "LostQuestions$Row")
  | 2 => .array (.object "LostQuestions$Standing")
  | 3 => .array .int
  | 4 => .object "LostQuestions$Matchings"
  | 5 => .object "LostQuestions$Parting"
  | 6 => .object "LostQuestions$Library"
  | 7 => .object "LostQuestions$Library"
  | 8 => .int
  | 9 => .long
  | 10 => .long
  | _ => .int
abbrev wsX60 : List Cond := u_ws RX6 TX6 12
theorem nmX6 : ∀ a, a < 12 → ∀ b, b < 12 → a ≠ b → (TX6 a).2.1 ≠ (TX6 b).2.1 := by decide +kernel
theorem tyX6_ok : ∀ k, k < 12 → parseFieldDescriptor (TX6 k).2.2.1 = some (tyX6 k) := by decide +kernel
abbrev cX6_init : ByteArray := prog_1_method_1_code
def yX6_init : MethodName := ⟨RX6, "<init>", "()V"⟩
abbrev cX6_row : ByteArray := prog_1_method_2_code
def yX6_row : MethodName := ⟨RX6, "row", "(II)I"⟩
abbrev cX6_lay : ByteArray := prog_1_method_3_code
def yX6_lay : MethodName := ⟨RX6, "lay", "(III)I"⟩
abbrev cX6_at : ByteArray := prog_1_method_4_code
def yX6_at : MethodName := ⟨RX6, "at", "(II)I"⟩
abbrev cX6_tear : ByteArray := prog_1_method_5_code
def yX6_tear : MethodName := ⟨RX6, "tear", "(I)I"⟩
abbrev cX6_copy : ByteArray := prog_1_method_6_code
def yX6_copy : MethodName := ⟨RX6, "copy", "(IIIII)I"⟩
abbrev cX6_mean : ByteArray := prog_1_method_7_code
def yX6_mean : MethodName := ⟨RX6, "mean", "(I)I"⟩
abbrev cX6_text : ByteArray := prog_1_method_8_code
def yX6_text : MethodName := ⟨RX6, "text", "(II)I"⟩
abbrev cX6_put : ByteArray := prog_1_method_9_code
def yX6_put : MethodName := ⟨RX6, "put", "(III)I"⟩
abbrev cX6_fault : ByteArray := prog_1_method_10_code
def yX6_fault : MethodName := ⟨RX6, "fault", "(I)I"⟩
abbrev cX6_library : ByteArray := prog_1_method_11_code
def yX6_library : MethodName := ⟨RX6, "library", "(I)I"⟩
abbrev cX6_card : ByteArray := prog_1_method_12_code
def yX6_card : MethodName := ⟨RX6, "card", "(II)I"⟩
abbrev cX6_question : ByteArray := prog_1_method_13_code
def yX6_question : MethodName := ⟨RX6, "question", "(II)I"⟩
abbrev cX6_mark : ByteArray := prog_1_method_14_code
def yX6_mark : MethodName := ⟨RX6, "mark", "(II)I"⟩
abbrev cX6_shelve : ByteArray := prog_1_method_15_code
def yX6_shelve : MethodName := ⟨RX6, "shelve", "(II)I"⟩
abbrev cX6_age : ByteArray := prog_1_method_16_code
def yX6_age : MethodName := ⟨RX6, "age", "(II)I"⟩
abbrev cX6_truth : ByteArray := prog_1_method_17_code
def yX6_truth : MethodName := ⟨RX6, "truth", "(II)I"⟩
abbrev cX6_fits : ByteArray := prog_1_method_18_code
def yX6_fits : MethodName := ⟨RX6, "fits", "(I)I"⟩
abbrev cX6_take : ByteArray := prog_1_method_19_code
def yX6_take : MethodName := ⟨RX6, "take", "(II)I"⟩
abbrev cX6_bring : ByteArray := prog_1_method_20_code
def yX6_bring : MethodName := ⟨RX6, "bring", "(I)I"⟩
abbrev cX6_undo : ByteArray := prog_1_method_21_code
def yX6_undo : MethodName := ⟨RX6, "undo", "(I)I"⟩
abbrev cX6_right : ByteArray := prog_1_method_22_code
def yX6_right : MethodName := ⟨RX6, "right", "()I"⟩
abbrev cX6_keep : ByteArray := prog_1_method_23_code
def yX6_keep : MethodName := ⟨RX6, "keep", "(I)I"⟩
abbrev cX6_on : ByteArray := prog_1_method_24_code
def yX6_on : MethodName := ⟨RX6, "on", "(I)I"⟩
abbrev cX6_match : ByteArray := prog_1_method_25_code
def yX6_match : MethodName := ⟨RX6, "match", "(I)I"⟩
abbrev cX6_wished : ByteArray := prog_1_method_26_code
def yX6_wished : MethodName := ⟨RX6, "wished", "(I)I"⟩
abbrev cX6_fullest : ByteArray := prog_1_method_27_code
def yX6_fullest : MethodName := ⟨RX6, "fullest", "()I"⟩
abbrev cX6_may : ByteArray := prog_1_method_28_code
def yX6_may : MethodName := ⟨RX6, "may", "(I)I"⟩
abbrev cX6_sure : ByteArray := prog_1_method_29_code
def yX6_sure : MethodName := ⟨RX6, "sure", "(I)I"⟩
abbrev cX6_test : ByteArray := prog_1_method_30_code
def yX6_test : MethodName := ⟨RX6, "test", "()I"⟩
abbrev cX6_odds : ByteArray := prog_1_method_31_code
def yX6_odds : MethodName := ⟨RX6, "odds", "(II)I"⟩
abbrev cX6_worlds : ByteArray := prog_1_method_32_code
def yX6_worlds : MethodName := ⟨RX6, "worlds", "()I"⟩
abbrev cX6_never : ByteArray := prog_1_method_33_code
def yX6_never : MethodName := ⟨RX6, "never", "()I"⟩
abbrev cX6_parts : ByteArray := prog_1_method_34_code
def yX6_parts : MethodName := ⟨RX6, "parts", "()I"⟩
abbrev cX6_finds : ByteArray := prog_1_method_35_code
def yX6_finds : MethodName := ⟨RX6, "finds", "(I)I"⟩
abbrev cX6_left : ByteArray := prog_1_method_36_code
def yX6_left : MethodName := ⟨RX6, "left", "(I)I"⟩
abbrev cX6_forged : ByteArray := prog_1_method_37_code
def yX6_forged : MethodName := ⟨RX6, "forged", "()I"⟩
abbrev cX6_beside : ByteArray := prog_1_method_38_code
def yX6_beside : MethodName := ⟨RX6, "beside", "(I)I"⟩
abbrev cX6_habit : ByteArray := prog_1_method_39_code
def yX6_habit : MethodName := ⟨RX6, "habit", "()I"⟩
abbrev cX6_order : ByteArray := prog_1_method_40_code
def yX6_order : MethodName := ⟨RX6, "order", "()I"⟩
abbrev cX6_byAge : ByteArray := prog_1_method_41_code
def yX6_byAge : MethodName := ⟨RX6, "byAge", "(I)I"⟩
abbrev cX6_lots : ByteArray := prog_1_method_42_code
def yX6_lots : MethodName := ⟨RX6, "lots", "(II)I"⟩
abbrev cX6_asked : ByteArray := prog_1_method_43_code
def yX6_asked : MethodName := ⟨RX6, "asked", "()I"⟩
abbrev cX6_upper : ByteArray := prog_1_method_44_code
def yX6_upper : MethodName := ⟨RX6, "upper", "()J"⟩
abbrev cX6_lower : ByteArray := prog_1_method_45_code
def yX6_lower : MethodName := ⟨RX6, "lower", "()J"⟩
abbrev cX6_count : ByteArray := prog_1_method_46_code
def yX6_count : MethodName := ⟨RX6, "count", "(I)I"⟩
abbrev cX6_finding : ByteArray := prog_1_method_47_code
def yX6_finding : MethodName := ⟨RX6, "finding", "()I"⟩
abbrev cX6_findings : ByteArray := prog_1_method_48_code
def yX6_findings : MethodName := ⟨RX6, "findings", "(I)I"⟩
abbrev cX6_digest : ByteArray := prog_1_method_49_code
def yX6_digest : MethodName := ⟨RX6, "digest", "()J"⟩
abbrev cX6_found : ByteArray := prog_1_method_50_code
def yX6_found : MethodName := ⟨RX6, "found", "(I)I"⟩
abbrev cX6_tellChances : ByteArray := prog_1_method_51_code
def yX6_tellChances : MethodName := ⟨RX6, "tellChances", "(JJ)V"⟩
abbrev cX6_keptThere : ByteArray := prog_1_method_52_code
def yX6_keptThere : MethodName := ⟨RX6, "keptThere", "()I"⟩
abbrev cX6_thereAmong : ByteArray := prog_1_method_53_code
def yX6_thereAmong : MethodName := ⟨RX6, "thereAmong", "([LLostQuestions$Row;)I"⟩
abbrev cX6_greatestShared : ByteArray := prog_1_method_54_code
def yX6_greatestShared : MethodName := ⟨RX6, "greatestShared", "(JJ)J"⟩
abbrev cX6_isRow : ByteArray := prog_1_method_55_code
def yX6_isRow : MethodName := ⟨RX6, "isRow", "(I)Z"⟩
abbrev cX6_isText : ByteArray := prog_1_method_56_code
def yX6_isText : MethodName := ⟨RX6, "isText", "(I)Z"⟩
abbrev cX6_isPlaceKept : ByteArray := prog_1_method_57_code
def yX6_isPlaceKept : MethodName := ⟨RX6, "isPlaceKept", "(I)Z"⟩
def RX7 : String := "LostQuestionsModel"
def TX7 : u_T := fun k => match k with
  | 0 => ("LostQuestionsModel", "rowSizes", "[I", true)
  | 1 => ("LostQuestionsModel", "rows", "[I", true)
  | 2 => ("LostQuestionsModel", "textSizes", "[I", true)
  | 3 => ("LostQuestionsModel", "texts", "[I", true)
  | 4 => ("LostQuestionsModel", "now", "[I", true)
  | 5 => ("LostQuestionsModel", "keeps", "[I", true)
  | 6 => ("LostQuestionsModel", "kept", "[Z", true)
  | 7 => ("LostQuestionsModel", "asked", "I", false)
  | 8 => ("LostQuestionsModel", "upper", "J", false)
  | 9 => ("LostQuestionsModel", "lower", "J", false)
  | 10 => ("LostQuestionsModel", "finding", "I", false)
  | 11 => ("LostQuestionsModel", "findings", "[I", true)
  | 12 => ("LostQuestionsModel", "read", "[I", true)
  | 13 => ("LostQuestionsModel", "at", "I", false)
  | 14 => ("LostQuestionsModel", "chosen", "[I", true)
  | 15 => ("LostQuestionsModel", "best", "[I", true)
  | 16 => ("LostQuestionsModel", "within", "[I", true)
  | 17 => ("LostQuestionsModel", "all", "I", false)
  | 18 => ("LostQuestionsModel", "most", "I", false)
  | 19 => ("LostQuestionsModel", "asks", "[I", true)
  | _ => ("LostQuestionsModel", "firsts", "[I", true)
def tyX7 : Nat → FieldType := fun k => match k with
  | 0 => .array .int
  | 1 => .array .int
  | 2 => .array .int
  | 3 => .array .int
  | 4 => .array .int
  | 5 => .array .int
  | 6 => .array .boolean
  | 7 => .int
  | 8 => .long
  | 9 => .long
  | 10 => .int
  | 11 => .array .int
  | 12 => .array .int
  | 13 => .int
  | 14 => .array .int
  | 15 => .array .int
  | 16 => .array .int
  | 17 => .int
  | 18 => .int
  | 19 => .array .int
  | _ => .array .int
abbrev wsX70 : List Cond := u_ws RX7 TX7 21
theorem nmX7 : ∀ a, a < 21 → ∀ b, b < 21 → a ≠ b → (TX7 a).2.1 ≠ (TX7 b).2.1 := by decide +kernel
theorem tyX7_ok : ∀ k, k < 21 → parseFieldDescriptor (TX7 k).2.2.1 = some (tyX7 k) := by decide +kernel
abbrev cX7_init : ByteArray := prog_9_method_1_code
def yX7_init : MethodName := ⟨RX7, "<init>", "()V"⟩
abbrev cX7_in : ByteArray := prog_9_method_3_code
def yX7_in : MethodName := ⟨RX7, "in", "(JJJ)Z"⟩
abbrev cX7_found : ByteArray := prog_9_method_4_code
def yX7_found : MethodName := ⟨RX7, "found", "(I)I"⟩
abbrev cX7_tell : ByteArray := prog_9_method_5_code
def yX7_tell : MethodName := ⟨RX7, "tell", "(I)I"⟩
abbrev cX7_isRow : ByteArray := prog_9_method_6_code
def yX7_isRow : MethodName := ⟨RX7, "isRow", "(I)Z"⟩
abbrev cX7_isText : ByteArray := prog_9_method_7_code
def yX7_isText : MethodName := ⟨RX7, "isText", "(I)Z"⟩
abbrev cX7_row : ByteArray := prog_9_method_8_code
def yX7_row : MethodName := ⟨RX7, "row", "(II)I"⟩
abbrev cX7_lay : ByteArray := prog_9_method_9_code
def yX7_lay : MethodName := ⟨RX7, "lay", "(III)I"⟩
abbrev cX7_at : ByteArray := prog_9_method_10_code
def yX7_at : MethodName := ⟨RX7, "at", "(II)I"⟩
abbrev cX7_tear : ByteArray := prog_9_method_11_code
def yX7_tear : MethodName := ⟨RX7, "tear", "(I)I"⟩
abbrev cX7_copy : ByteArray := prog_9_method_12_code
def yX7_copy : MethodName := ⟨RX7, "copy", "(IIIII)I"⟩
abbrev cX7_mean : ByteArray := prog_9_method_13_code
def yX7_mean : MethodName := ⟨RX7, "mean", "(I)I"⟩
abbrev cX7_text : ByteArray := prog_9_method_14_code
def yX7_text : MethodName := ⟨RX7, "text", "(II)I"⟩
abbrev cX7_put : ByteArray := prog_9_method_15_code
def yX7_put : MethodName := ⟨RX7, "put", "(III)I"⟩
abbrev cX7_kindOf : ByteArray := prog_9_method_16_code
def yX7_kindOf : MethodName := ⟨RX7, "kindOf", "(I)I"⟩
abbrev cX7_byteAt : ByteArray := prog_9_method_17_code
def yX7_byteAt : MethodName := ⟨RX7, "byteAt", "(I)I"⟩
abbrev cX7_takes : ByteArray := prog_9_method_18_code
def yX7_takes : MethodName := ⟨RX7, "takes", "(IIII)Z"⟩
abbrev cX7_takesCard : ByteArray := prog_9_method_19_code
def yX7_takesCard : MethodName := ⟨RX7, "takesCard", "(I)Z"⟩
abbrev cX7_takesQuestion : ByteArray := prog_9_method_20_code
def yX7_takesQuestion : MethodName := ⟨RX7, "takesQuestion", "(I)Z"⟩
abbrev cX7_reads : ByteArray := prog_9_method_21_code
def yX7_reads : MethodName := ⟨RX7, "reads", "(I)I"⟩
abbrev cX7_fault : ByteArray := prog_9_method_22_code
def yX7_fault : MethodName := ⟨RX7, "fault", "(I)I"⟩
abbrev cX7_copies : ByteArray := prog_9_method_23_code
def yX7_copies : MethodName := ⟨RX7, "copies", "([II[II)V"⟩
abbrev cX7_library : ByteArray := prog_9_method_24_code
def yX7_library : MethodName := ⟨RX7, "library", "(I)I"⟩
abbrev cX7_isCard : ByteArray := prog_9_method_25_code
def yX7_isCard : MethodName := ⟨RX7, "isCard", "(I)Z"⟩
abbrev cX7_isQuestion : ByteArray := prog_9_method_26_code
def yX7_isQuestion : MethodName := ⟨RX7, "isQuestion", "(I)Z"⟩
abbrev cX7_isOf : ByteArray := prog_9_method_27_code
def yX7_isOf : MethodName := ⟨RX7, "isOf", "(II)Z"⟩
abbrev cX7_means : ByteArray := prog_9_method_28_code
def yX7_means : MethodName := ⟨RX7, "means", "(I)I"⟩
abbrev cX7_suits : ByteArray := prog_9_method_29_code
def yX7_suits : MethodName := ⟨RX7, "suits", "(IIII)Z"⟩
abbrev cX7_isFit : ByteArray := prog_9_method_30_code
def yX7_isFit : MethodName := ⟨RX7, "isFit", "(II)Z"⟩
abbrev cX7_answers : ByteArray := prog_9_method_31_code
def yX7_answers : MethodName := ⟨RX7, "answers", "(I)I"⟩
abbrev cX7_toldCard : ByteArray := prog_9_method_32_code
def yX7_toldCard : MethodName := ⟨RX7, "toldCard", "(II)I"⟩
abbrev cX7_card : ByteArray := prog_9_method_33_code
def yX7_card : MethodName := ⟨RX7, "card", "(II)I"⟩
abbrev cX7_question : ByteArray := prog_9_method_34_code
def yX7_question : MethodName := ⟨RX7, "question", "(II)I"⟩
abbrev cX7_mark : ByteArray := prog_9_method_35_code
def yX7_mark : MethodName := ⟨RX7, "mark", "(II)I"⟩
abbrev cX7_puts : ByteArray := prog_9_method_36_code
def yX7_puts : MethodName := ⟨RX7, "puts", "(II)I"⟩
abbrev cX7_shelve : ByteArray := prog_9_method_37_code
def yX7_shelve : MethodName := ⟨RX7, "shelve", "(II)I"⟩
abbrev cX7_age : ByteArray := prog_9_method_38_code
def yX7_age : MethodName := ⟨RX7, "age", "(II)I"⟩
abbrev cX7_truth : ByteArray := prog_9_method_39_code
def yX7_truth : MethodName := ⟨RX7, "truth", "(II)I"⟩
abbrev cX7_fits : ByteArray := prog_9_method_40_code
def yX7_fits : MethodName := ⟨RX7, "fits", "(I)I"⟩
abbrev cX7_isFreeCard : ByteArray := prog_9_method_41_code
def yX7_isFreeCard : MethodName := ⟨RX7, "isFreeCard", "(I)Z"⟩
abbrev cX7_isFree : ByteArray := prog_9_method_42_code
def yX7_isFree : MethodName := ⟨RX7, "isFree", "(I)Z"⟩
abbrev cX7_takesIt : ByteArray := prog_9_method_43_code
def yX7_takesIt : MethodName := ⟨RX7, "takesIt", "(II)V"⟩
abbrev cX7_stands : ByteArray := prog_9_method_44_code
def yX7_stands : MethodName := ⟨RX7, "stands", "(I)I"⟩
abbrev cX7_take : ByteArray := prog_9_method_45_code
def yX7_take : MethodName := ⟨RX7, "take", "(II)I"⟩
abbrev cX7_bring : ByteArray := prog_9_method_46_code
def yX7_bring : MethodName := ⟨RX7, "bring", "(I)I"⟩
abbrev cX7_undo : ByteArray := prog_9_method_47_code
def yX7_undo : MethodName := ⟨RX7, "undo", "(I)I"⟩
abbrev cX7_standing : ByteArray := prog_9_method_48_code
def yX7_standing : MethodName := ⟨RX7, "standing", "(I)I"⟩
abbrev cX7_right : ByteArray := prog_9_method_49_code
def yX7_right : MethodName := ⟨RX7, "right", "()I"⟩
abbrev cX7_keep : ByteArray := prog_9_method_50_code
def yX7_keep : MethodName := ⟨RX7, "keep", "(I)I"⟩
abbrev cX7_on : ByteArray := prog_9_method_51_code
def yX7_on : MethodName := ⟨RX7, "on", "(I)I"⟩
abbrev cX7_mayMatch : ByteArray := prog_9_method_52_code
def yX7_mayMatch : MethodName := ⟨RX7, "mayMatch", "(II)Z"⟩
abbrev cX7_layMatchings : ByteArray := prog_9_method_53_code
def yX7_layMatchings : MethodName := ⟨RX7, "layMatchings", "(Z)V"⟩
abbrev cX7_counts : ByteArray := prog_9_method_54_code
def yX7_counts : MethodName := ⟨RX7, "counts", "(I)V"⟩
abbrev cX7_laid : ByteArray := prog_9_method_55_code
def yX7_laid : MethodName := ⟨RX7, "laid", "(I)I"⟩
abbrev cX7_match : ByteArray := prog_9_method_56_code
def yX7_match : MethodName := ⟨RX7, "match", "(I)I"⟩
abbrev cX7_wished : ByteArray := prog_9_method_57_code
def yX7_wished : MethodName := ⟨RX7, "wished", "(I)I"⟩
abbrev cX7_fullest : ByteArray := prog_9_method_58_code
def yX7_fullest : MethodName := ⟨RX7, "fullest", "()I"⟩
abbrev cX7_may : ByteArray := prog_9_method_59_code
def yX7_may : MethodName := ⟨RX7, "may", "(I)I"⟩
abbrev cX7_sure : ByteArray := prog_9_method_60_code
def yX7_sure : MethodName := ⟨RX7, "sure", "(I)I"⟩
abbrev cX7_test : ByteArray := prog_9_method_61_code
def yX7_test : MethodName := ⟨RX7, "test", "()I"⟩
abbrev cX7_odds : ByteArray := prog_9_method_62_code
def yX7_odds : MethodName := ⟨RX7, "odds", "(II)I"⟩
abbrev cX7_worlds : ByteArray := prog_9_method_63_code
def yX7_worlds : MethodName := ⟨RX7, "worlds", "()I"⟩
abbrev cX7_never : ByteArray := prog_9_method_64_code
def yX7_never : MethodName := ⟨RX7, "never", "()I"⟩
abbrev cX7_manyFit : ByteArray := prog_9_method_65_code
def yX7_manyFit : MethodName := ⟨RX7, "manyFit", "(III)I"⟩
abbrev cX7_parts : ByteArray := prog_9_method_66_code
def yX7_parts : MethodName := ⟨RX7, "parts", "()I"⟩
abbrev cX7_isOne : ByteArray := prog_9_method_67_code
def yX7_isOne : MethodName := ⟨RX7, "isOne", "(I)Z"⟩
abbrev cX7_finds : ByteArray := prog_9_method_68_code
def yX7_finds : MethodName := ⟨RX7, "finds", "(I)I"⟩
abbrev cX7_left : ByteArray := prog_9_method_69_code
def yX7_left : MethodName := ⟨RX7, "left", "(I)I"⟩
abbrev cX7_forged : ByteArray := prog_9_method_70_code
def yX7_forged : MethodName := ⟨RX7, "forged", "()I"⟩
abbrev cX7_lesser : ByteArray := prog_9_method_71_code
def yX7_lesser : MethodName := ⟨RX7, "lesser", "(II)I"⟩
abbrev cX7_manyThere : ByteArray := prog_9_method_72_code
def yX7_manyThere : MethodName := ⟨RX7, "manyThere", "(III)I"⟩
abbrev cX7_manyHere : ByteArray := prog_9_method_73_code
def yX7_manyHere : MethodName := ⟨RX7, "manyHere", "(II)I"⟩
abbrev cX7_beside : ByteArray := prog_9_method_74_code
def yX7_beside : MethodName := ⟨RX7, "beside", "(I)I"⟩
abbrev cX7_lying : ByteArray := prog_9_method_75_code
def yX7_lying : MethodName := ⟨RX7, "lying", "(II)I"⟩
abbrev cX7_habit : ByteArray := prog_9_method_76_code
def yX7_habit : MethodName := ⟨RX7, "habit", "()I"⟩
abbrev cX7_order : ByteArray := prog_9_method_77_code
def yX7_order : MethodName := ⟨RX7, "order", "()I"⟩
abbrev cX7_byAge : ByteArray := prog_9_method_78_code
def yX7_byAge : MethodName := ⟨RX7, "byAge", "(I)I"⟩
abbrev cX7_lots : ByteArray := prog_9_method_79_code
def yX7_lots : MethodName := ⟨RX7, "lots", "(II)I"⟩
abbrev cX7_asked : ByteArray := prog_9_method_80_code
def yX7_asked : MethodName := ⟨RX7, "asked", "()I"⟩
abbrev cX7_upper : ByteArray := prog_9_method_81_code
def yX7_upper : MethodName := ⟨RX7, "upper", "()J"⟩
abbrev cX7_lower : ByteArray := prog_9_method_82_code
def yX7_lower : MethodName := ⟨RX7, "lower", "()J"⟩
abbrev cX7_counted : ByteArray := prog_9_method_83_code
def yX7_counted : MethodName := ⟨RX7, "counted", "(I)I"⟩
abbrev cX7_count : ByteArray := prog_9_method_84_code
def yX7_count : MethodName := ⟨RX7, "count", "(I)I"⟩
abbrev cX7_finding : ByteArray := prog_9_method_85_code
def yX7_finding : MethodName := ⟨RX7, "finding", "()I"⟩
abbrev cX7_findings : ByteArray := prog_9_method_86_code
def yX7_findings : MethodName := ⟨RX7, "findings", "(I)I"⟩
abbrev cX7_digest : ByteArray := prog_9_method_87_code
def yX7_digest : MethodName := ⟨RX7, "digest", "()J"⟩
def RJ6 : String := "java/lang/Integer"
abbrev cJ6_bitCount_0f7a4 : ByteArray := prog_10_method_49_code
def yJ6_bitCount_0f7a4 : MethodName := ⟨RJ6, "bitCount", "(I)I"⟩
def RJ9 : String := "java/lang/Math"
abbrev cJ9_abs_0f7a4 : ByteArray := prog_11_method_59_code
def yJ9_abs_0f7a4 : MethodName := ⟨RJ9, "abs", "(I)I"⟩
abbrev cJ9_max_7cf53 : ByteArray := prog_11_method_65_code
def yJ9_max_7cf53 : MethodName := ⟨RJ9, "max", "(II)I"⟩
abbrev cJ9_min_7cf53 : ByteArray := prog_11_method_69_code
def yJ9_min_7cf53 : MethodName := ⟨RJ9, "min", "(II)I"⟩
def RJ10 : String := "java/lang/System"
def RJ7 : String := "java/util/Arrays"
abbrev cJ7_fill_53178 : ByteArray := prog_13_method_103_code
def yJ7_fill_53178 : MethodName := ⟨RJ7, "fill", "([II)V"⟩
def RL : String := "LostQuestionsLaw"
abbrev cL_law : ByteArray := code
def yL_law : MethodName := ⟨RL, "law", "([I)Z"⟩
abbrev vwCl : List vw_C := [(RX1, TX1, 9), (RX2, TX2, 8), (RX3, TX3, 7), (RX4, TX4, 2), (RX5, TX5, 7), (RX6, TX6, 12), (RX7, TX7, 21)]
theorem inX1 : ∀ w ∈ wsX10, w ∈ lw_tbl := by decide +kernel
theorem inX2 : ∀ w ∈ wsX20, w ∈ lw_tbl := by decide +kernel
theorem inX3 : ∀ w ∈ wsX30, w ∈ lw_tbl := by decide +kernel
theorem inX4 : ∀ w ∈ wsX40, w ∈ lw_tbl := by decide +kernel
theorem inX5 : ∀ w ∈ wsX50, w ∈ lw_tbl := by decide +kernel
theorem inX6 : ∀ w ∈ wsX60, w ∈ lw_tbl := by decide +kernel
theorem inX7 : ∀ w ∈ wsX70, w ∈ lw_tbl := by decide +kernel
end
section
/-! The abstract machine: cells by number, typed contents; 'Go' is the kit's W over every concrete state that holds the abstract one. -/
def lw_g : List Cond := lw_tbl.filter goodWord
def am_nest : Cond → Bool
  | .fieldLinkNest .. => true
  | .methodLinkNest .. => true
  | _ => false
def lw_n : List Cond := lw_tbl.filter am_nest
/-- contents: ints, longs, references (numbers of cells), by cell and place -/
abbrev aSt : Type := (Nat → Nat → Int32) × (Nat → Nat → Int64) × (Nat → Nat → Option Nat)
/-- the run's constants: the heap at the law's entry, the script's address, the letters' address, the script's length and ints, classes, array classes -/
abbrev aG : Type := Heap × Nat × Nat × Nat × (Nat → Int32) × va_G × (ClassId × ClassId × ClassId × ClassId)
abbrev gB (G : aG) : Nat := G.1.size
abbrev gD (G : aG) : va_G := G.2.2.2.2.2.1
abbrev gC (G : aG) : ClassId × ClassId × ClassId × ClassId := G.2.2.2.2.2.2
/-- a method: code, locals, answer's type, class, name -/
abbrev aM : Type := ByteArray × Nat × Option FieldType × String × String
def qa (G : aG) (k : Nat) : Nat := if k = 1000 then G.2.1 else if k = 1001 then G.2.2.1 else gB G + k
/-- what each cell is: a class's number (0 to 6), or 7 ints, 8 booleans, 9 Rows, 10 Standings; how many places -/
def SHl : List (Nat × Nat) := [(5, 0), (9, 6), (9, 4), (10, 3), (7, 6), (1, 0), (7, 7), (7, 1024), (7, 1024), (2, 0), (7, 10), (7, 7), (7, 128), (0, 0), (7, 7), (7, 7), (7, 7), (7, 7), (7, 7), (7, 7), (4, 0), (7, 7), (7, 7), (7, 7), (7, 7), (7, 40), (7, 280), (0, 0), (7, 7), (7, 7), (7, 7), (7, 7), (7, 7), (7, 7), (4, 0), (7, 7), (7, 7), (7, 7), (7, 7), (7, 40), (7, 280), (3, 0), (7, 40), (3, 0), (7, 40), (3, 0), (7, 40), (3, 0), (7, 40), (3, 0), (7, 40), (3, 0), (7, 40), (3, 0), (7, 80), (3, 0), (7, 80), (3, 0), (7, 80), (3, 0), (7, 80), (4, 0), (7, 7), (7, 7), (7, 7), (7, 7), (7, 40), (7, 280), (4, 0), (7, 7), (7, 7), (7, 7), (7, 7), (7, 40), (7, 280), (4, 0), (7, 7), (7, 7), (7, 7), (7, 7), (7, 40), (7, 280), (6, 0), (7, 6), (7, 240), (7, 4), (7, 320), (7, 393), (7, 1179), (8, 3), (7, 6), (7, 393), (7, 7), (7, 7), (7, 49), (7, 128), (7, 128)]
def SH (k : Nat) : Nat × Nat := SHl.getD k (99, 0)
def ftys (c : Nat) : List Nat := match c with
  | 0 => [2, 2, 2, 2, 2, 2, 2, 0, 0]
  | 1 => [2, 2, 2, 0, 0, 0, 0, 0]
  | 2 => [2, 2, 2, 0, 0, 0, 0]
  | 3 => [2, 0]
  | 4 => [2, 2, 2, 2, 2, 2, 0]
  | 5 => [2, 2, 2, 2, 2, 2, 2, 2, 0, 1, 1, 0]
  | 6 => [2, 2, 2, 2, 2, 2, 2, 0, 1, 1, 0, 2, 2, 0, 2, 2, 2, 0, 0, 2, 2]
  | _ => []
def am_fv (G : aG) (S : aSt) (k j ty : Nat) : Value := match ty with
  | 0 => .int (S.1 k j)
  | 1 => .long (S.2.1 k j)
  | _ => va_rf ((S.2.2 k j).map (qa G))
def am_fs (G : aG) (S : aSt) (k : Nat) : List Value := (List.range (ftys (SH k).1).length).map (fun j => am_fv G S k j ((ftys (SH k).1).getD j 0))
def am_cE (G : aG) (S : aSt) (k : Nat) : va_E := match (SH k).1 with
  | 7 => .inl ((gC G).1, (SH k).2, .inl (S.1 k))
  | 8 => .inl ((gC G).2.1, (SH k).2, .inl (S.1 k))
  | 9 => .inl ((gC G).2.2.1, (SH k).2, .inr (.inr (.inr (.inr (fun i => (S.2.2 k i).map (qa G))))))
  | 10 => .inl ((gC G).2.2.2, (SH k).2, .inr (.inr (.inr (.inr (fun i => (S.2.2 k i).map (qa G))))))
  | c => .inr (c, am_fs G S k)
def aws (G : aG) (n : Nat) (S : aSt) : va_W := (List.range n).map (fun k => (gB G + k, am_cE G S k))
def aty (G : aG) : List (ClassId × FieldType) := [((gC G).1, .int), ((gC G).2.1, .boolean), ((gC G).2.2.1, .object "LostQuestions$Row"), ((gC G).2.2.2, .object "LostQuestions$Standing")]
abbrev gA (G : aG) : Nat → Prop := fun a => gB G ≤ a
def am_let : Nat → Int32 := fun j => match j with
  | 0 => 110
  | 1 => 121
  | 2 => 112
  | 3 => 118
  | 4 => 116
  | _ => 98
def aW (G : aG) (n : Nat) (S : aSt) (H : Heap) : Prop := n ≤ 100 ∧ va_P (gD G) vwCl (aws G n S) H ∧ ∀ a, a < gB G → H[a]? = G.1[a]?
def aK (G : aG) (s : State) : Prop := va_K (gD G) vwCl (aty G) s ∧ (∀ w ∈ lw_n, va_Nw w s) ∧ va_AO "LostQuestions$Row" s ∧ va_AO "LostQuestions$Standing" s ∧ va_X G.2.1 G.2.2.2.1 G.2.2.2.2.1 s G.1 ∧ va_Z "LostQuestions$Kinds" "LETTERS" "[I" (.ref G.2.2.1) (gA G) s G.1 ∧ va_T .int G.2.2.1 6 (fun j => .int (am_let j)) (gA G) s G.1
def cV (G : aG) (v : Value) : Value := match v with
  | .ref k => .ref (qa G k)
  | w => w
def cL (G : aG) (q : Nat × Value) : Nat × Value := (q.1, cV G q.2)
theorem cV_cat (G : aG) (v : Value) : (cV G v).category = v.category := by cases v <;> rfl
theorem aK.moved {G : aG} {s U : State} (hW : s.WarmedH U.vm) (h : aK G s) : aK G U := by
  obtain ⟨h1, h2, h3, h4, h5, h6, h7⟩ := h
  refine ⟨h1.moved hW.alike, fun w hw => ?_, h3.moved hW.alike, h4.moved hW.alike, h5.moved hW.alike, h6.moved hW.alike, h7.moved hW.alike⟩
  have hz := h2 w hw
  have hn : am_nest w = true := (List.mem_filter.mp hw).2
  cases w <;> simp [am_nest] at hn
  · exact va_Nw.warmM hW hz
  · exact va_Nw.warmF hW hz
theorem aws_len (G : aG) (n : Nat) (S : aSt) : (aws G n S).length = n := by simp [aws]
theorem aws_get {G : aG} {n : Nat} {S : aSt} {k : Nat} (h : k < n) : (aws G n S)[k]? = some (gB G + k, am_cE G S k) := by
  simp [aws, h]
theorem aws_some {G : aG} {n : Nat} {S : aSt} {k : Nat} {q : Nat × va_E} (h : (aws G n S)[k]? = some q) : k < n ∧ q = (gB G + k, am_cE G S k) := by
  have hk : k < n := by have := (List.getElem?_eq_some_iff.mp h).1; simpa [aws_len] using this
  rw [aws_get hk] at h
  exact ⟨hk, (Option.some.inj h).symm⟩
theorem aws_D (G : aG) (n : Nat) (S : aSt) : va_D (gA G) (aws G n S) := by
  refine ⟨fun i j p q hi hj h => ?_, fun k q hk => ?_⟩
  · obtain ⟨-, rfl⟩ := aws_some hi
    obtain ⟨-, rfl⟩ := aws_some hj
    simpa using h
  · obtain ⟨-, rfl⟩ := aws_some hk
    exact Nat.le_add_right _ _
theorem aws_set {G : aG} {n : Nat} {S S' : aSt} {k : Nat} {e : va_E} (he : am_cE G S' k = e) (ho : ∀ j, j ≠ k → am_cE G S' j = am_cE G S j) : (aws G n S).set k (gB G + k, e) = aws G n S' := by
  apply List.ext_getElem?
  intro j
  by_cases hjk : j = k
  · subst hjk
    by_cases hj : j < n
    · rw [List.getElem?_set_self (by rw [aws_len]; exact hj), aws_get hj, he]
    · rw [List.getElem?_eq_none (by rw [List.length_set, aws_len]; omega), List.getElem?_eq_none (by rw [aws_len]; omega)]
  · rw [List.getElem?_set_ne (Ne.symm hjk)]
    by_cases hj : j < n
    · rw [aws_get hj, aws_get hj, ho j hjk]
    · rw [List.getElem?_eq_none (by rw [aws_len]; omega), List.getElem?_eq_none (by rw [aws_len]; omega)]
theorem am_cE_congr {G : aG} {S S' : aSt} {j : Nat} (h1 : S'.1 j = S.1 j) (h2 : S'.2.1 j = S.2.1 j) (h3 : S'.2.2 j = S.2.2 j) : am_cE G S' j = am_cE G S j := by
  have hf : am_fs G S' j = am_fs G S j := by
    unfold am_fs am_fv
    rw [h1, h2, h3]
  unfold am_cE
  rw [h1, h3, hf]
theorem qa_own {G : aG} {k : Nat} (h : k < 1000) : qa G k = gB G + k := by
  unfold qa
  rw [if_neg (by omega), if_neg (by omega)]
/-- a write of an int, a long, a reference -/
def stI (S : aSt) (k j : Nat) (v : Int32) : aSt := (fun a => if a = k then upd (S.1 k) j v else S.1 a, S.2)
def stL (S : aSt) (k j : Nat) (v : Int64) : aSt := (S.1, fun a => if a = k then vp_updL (S.2.1 k) j v else S.2.1 a, S.2.2)
def stR (S : aSt) (k j : Nat) (v : Option Nat) : aSt := (S.1, S.2.1, fun a => if a = k then va_up (S.2.2 k) j v else S.2.2 a)
/-- a whole row -/
def stRow (S : aSt) (k : Nat) (f : Nat → Int32) : aSt := (fun a => if a = k then f else S.1 a, S.2)
theorem stI_row (S : aSt) (k j : Nat) (v : Int32) : stI S k j v = stRow S k (upd (S.1 k) j v) := rfl
theorem stI_self (S : aSt) (k j : Nat) (v : Int32) : (stI S k j v).1 k = upd (S.1 k) j v := by simp [stI]
theorem stI_ne {S : aSt} {k j a : Nat} {v : Int32} (h : a ≠ k) : (stI S k j v).1 a = S.1 a := by simp [stI, h]
def inb (i : Int32) (n : Nat) : Bool := !(decide (i < 0) || decide (n ≤ i.toNatClampNeg))
theorem inb_in {i : Int32} {n : Nat} (h : inb i n = true) : vp_in i n := by
  simp [inb] at h
  intro q
  rcases q with q | q
  · exact absurd q (by simpa using h.1)
  · omega
/-- the parts of the functions that the code is read as -/
def grd {α : Type} (b : Bool) (x : Option α) : Option α := if b then x else none
def nm {α β : Type} (x : α) (f : α → Option β) : Option β := f x
def jn {α β : Type} (f : α) (g : α → Option β) : Option β := g f
def isT (k t : Nat) : Bool := decide (k < 97) && decide ((SH k).1 = t)
/-- a reference that is read: not null, of its kind -/
def rfd {β : Type} (o : Option Nat) (t : Nat) (f : Nat → Option β) : Option β := match o with
  | some k => if isT k t then f k else none
  | none => none
theorem f_grd {α : Type} {b : Bool} {x : Option α} {r : α} (h : grd b x = some r) : b = true ∧ x = some r := by
  unfold grd at h
  cases b
  · simp at h
  · exact ⟨rfl, by simpa using h⟩
theorem f_nm {α β : Type} {x : α} {f : α → Option β} {r : β} (h : nm x f = some r) : ∃ z, z = x ∧ f z = some r := ⟨x, rfl, h⟩
theorem f_jn {α β : Type} {f : α} {g : α → Option β} {r : β} (h : jn f g = some r) : ∃ z, z = f ∧ g z = some r := ⟨f, rfl, h⟩
theorem f_rfd {β : Type} {o : Option Nat} {t : Nat} {f : Nat → Option β} {r : β} (h : rfd o t f = some r) : ∃ k, o = some k ∧ isT k t = true ∧ f k = some r := by
  cases o with
  | none => cases h
  | some k =>
    unfold rfd at h
    dsimp only at h
    by_cases hk : isT k t = true
    · rw [if_pos hk] at h
      exact ⟨k, rfl, hk, h⟩
    · rw [if_neg hk] at h
      cases h
theorem f_bnd {α β : Type} {o : Option α} {f : α → Option β} {r : β} (h : o.bind f = some r) : ∃ z, o = some z ∧ f z = some r := by
  cases o with
  | none => cases h
  | some z => exact ⟨z, rfl, h⟩
theorem f_if {α : Type} {c : Prop} [Decidable c] {x y : Option α} {r : α} (h : (if c then x else y) = some r) (hc : c) : x = some r := by rw [if_pos hc] at h; exact h
theorem f_el {α : Type} {c : Prop} [Decidable c] {x y : Option α} {r : α} (h : (if c then x else y) = some r) (hc : ¬ c) : y = some r := by rw [if_neg hc] at h; exact h
theorem isT_lt {k t : Nat} (h : isT k t = true) : k < 97 := by simp [isT] at h; exact h.1
theorem isT_sh {k t : Nat} (h : isT k t = true) : (SH k).1 = t := by simp [isT] at h; exact h.2
end
section
/-! The judgement 'Go' and its rows: one an instruction. -/
/-- what holds in a method's frame: the machine, its code, its words, the run's constants -/
def aC (G : aG) (M : aM) (p : Program) (s : State) (m : MethodId) (args : Array Value) (meth : Method) (c : Code) : Prop :=
  p.tables.exec = Jvm.exec ∧ c.code = M.1 ∧ c.maxLocals = M.2.1 ∧ meth.sig.returnType = M.2.2.1 ∧ s.vm.findClass M.2.2.2.1 = some m.cls ∧ meth.name = M.2.2.2.2 ∧ meth.locks = false ∧ (∀ w ∈ lw_g, w.before args s = true) ∧ aK G s ∧ ∀ a, a < gB G → s.heap[a]? = G.1[a]?
def Go (G : aG) (l : Launch) (R : Room) (Tm : List Frame → Array Value → State → State → Prop) (M : aM) (n cells slots : Nat) (pc : Nat) (lv : List (Nat × Value)) (st : List Value) (S : aSt) : Prop :=
  ∀ (p : Program) (e : Env) (s : State) (m : MethodId) (args : Array Value) (below : List Frame) (meth : Method) (c : Code) (H : Heap) (locs : List Loc) (ls : Array Slot),
    aC G M p s m args meth c → s.heap.size + cells = gB G + n → va_S (gA G) s.heap H locs → aW G n S H → lv_has ls M.2.1 (lv.map (cL G)) → W p l e R s m args below meth c H locs cells slots (Tm below args s) (F0 m pc ls (st.map (cV G)))
section GO
variable {G : aG} {l : Launch} {R : Room} {Tm : List Frame → Array Value → State → State → Prop} {M : aM} {n cells slots pc : Nat} {lv : List (Nat × Value)} {st : List Value} {S : aSt}
theorem am_at {ls : Array Slot} {nL : Nat} {lv : List (Nat × Value)} {G : aG} (h : lv_has ls nL (lv.map (cL G))) (j : Nat) {i : Nat} {v : Value} (hj : lv[j]? = some (i, v)) : ls[i]? = some (.val (cV G v)) :=
  lv_at h j (by rw [List.getElem?_map, hj]; rfl)
theorem am_filter (G : aG) (i : Nat) (lv : List (Nat × Value)) : (lv.map (cL G)).filter (fun q => !(q.1 == i) && !(q.1 + 1 == i && q.2.category == 2)) = (lv.filter (fun q => !(q.1 == i) && !(q.1 + 1 == i && q.2.category == 2))).map (cL G) := by
  rw [List.filter_map]
  congr 1
  apply List.filter_congr
  intro q _
  simp [cL, cV_cat]
theorem am_filterL (G : aG) (i : Nat) (lv : List (Nat × Value)) : (lv.map (cL G)).filter (fun q => !(q.1 == i) && (!(q.1 == i + 1) && !(q.1 + 1 == i && q.2.category == 2))) = (lv.filter (fun q => !(q.1 == i) && (!(q.1 == i + 1) && !(q.1 + 1 == i && q.2.category == 2)))).map (cL G) := by
  rw [List.filter_map]
  congr 1
  apply List.filter_congr
  intro q _
  simp [cL, cV_cat]

theorem Go.iload_n {i : Fin 4} {x : Int32} (j : Nat) (pc' : Nat) (hp : pc + 1 = pc') (hd : decode M.1 pc = .ok (.iload_n i, 1)) (hj : lv[j]? = some ((i : Nat), .int x)) (k : Go G l R Tm M n cells slots pc' lv (.int x :: st) S) : Go G l R Tm M n cells slots pc lv (st) S := by
  subst hp
  intro p e s m args below meth c H locs ls C hn hS hW hl
  exact lv_iload_n C.1 C.2.1 hd rfl (am_at hl j hj) (k p e s m args below meth c H locs ls C hn hS hW hl)

theorem Go.iload {i : Nat} {x : Int32} (j : Nat) (pc' : Nat) (hp : pc + 2 = pc') (hd : decode M.1 pc = .ok (.iload i, 2)) (hj : lv[j]? = some (i, .int x)) (k : Go G l R Tm M n cells slots pc' lv (.int x :: st) S) : Go G l R Tm M n cells slots pc lv (st) S := by
  subst hp
  intro p e s m args below meth c H locs ls C hn hS hW hl
  exact lv_iload C.1 C.2.1 hd (am_at hl j hj) (k p e s m args below meth c H locs ls C hn hS hW hl)

theorem Go.lload_n {i : Fin 4} {x : Int64} (j : Nat) (pc' : Nat) (hp : pc + 1 = pc') (hd : decode M.1 pc = .ok (.lload_n i, 1)) (hj : lv[j]? = some ((i : Nat), .long x)) (k : Go G l R Tm M n cells slots pc' lv (.long x :: st) S) : Go G l R Tm M n cells slots pc lv (st) S := by
  subst hp
  intro p e s m args below meth c H locs ls C hn hS hW hl
  exact lv_lload_n C.1 C.2.1 hd rfl (am_at hl j hj) (k p e s m args below meth c H locs ls C hn hS hW hl)

theorem Go.lload {i : Nat} {x : Int64} (j : Nat) (pc' : Nat) (hp : pc + 2 = pc') (hd : decode M.1 pc = .ok (.lload i, 2)) (hj : lv[j]? = some (i, .long x)) (k : Go G l R Tm M n cells slots pc' lv (.long x :: st) S) : Go G l R Tm M n cells slots pc lv (st) S := by
  subst hp
  intro p e s m args below meth c H locs ls C hn hS hW hl
  exact lv_lload C.1 C.2.1 hd (am_at hl j hj) (k p e s m args below meth c H locs ls C hn hS hW hl)

theorem Go.aload_n {i : Fin 4} {x : Nat} (j : Nat) (pc' : Nat) (hp : pc + 1 = pc') (hd : decode M.1 pc = .ok (.aload_n i, 1)) (hj : lv[j]? = some ((i : Nat), .ref x)) (k : Go G l R Tm M n cells slots pc' lv (.ref x :: st) S) : Go G l R Tm M n cells slots pc lv (st) S := by
  subst hp
  intro p e s m args below meth c H locs ls C hn hS hW hl
  exact lv_aload_n C.1 C.2.1 hd rfl (am_at hl j hj) (k p e s m args below meth c H locs ls C hn hS hW hl)

theorem Go.aload {i : Nat} {x : Nat} (j : Nat) (pc' : Nat) (hp : pc + 2 = pc') (hd : decode M.1 pc = .ok (.aload i, 2)) (hj : lv[j]? = some (i, .ref x)) (k : Go G l R Tm M n cells slots pc' lv (.ref x :: st) S) : Go G l R Tm M n cells slots pc lv (st) S := by
  subst hp
  intro p e s m args below meth c H locs ls C hn hS hW hl
  exact lv_aload C.1 C.2.1 hd (am_at hl j hj) (k p e s m args below meth c H locs ls C hn hS hW hl)

theorem Go.istore_n {i : Fin 4} {x : Int32} (pc' : Nat) (lv' : List (Nat × Value)) (hp : pc + 1 = pc') (hd : decode M.1 pc = .ok (.istore_n i, 1)) (hi : (i : Nat) < M.2.1) (hv : ((i : Nat), Value.int x) :: lv.filter (fun q => !(q.1 == (i : Nat)) && !(q.1 + 1 == (i : Nat) && q.2.category == 2)) = lv') (k : Go G l R Tm M n cells slots pc' lv' st S) : Go G l R Tm M n cells slots pc lv (.int x :: st) S := by
  subst hp
  subst hv
  intro p e s m args below meth c H locs ls C hn hS hW hl
  exact lv_istore_n C.1 C.2.1 hd rfl hl hi (by rw [am_filter]; rfl) (fun ls' hl' => k p e s m args below meth c H locs ls' C hn hS hW hl')

theorem Go.istore {i : Nat} {x : Int32} (pc' : Nat) (lv' : List (Nat × Value)) (hp : pc + 2 = pc') (hd : decode M.1 pc = .ok (.istore i, 2)) (hi : i < M.2.1) (hv : (i, Value.int x) :: lv.filter (fun q => !(q.1 == i) && !(q.1 + 1 == i && q.2.category == 2)) = lv') (k : Go G l R Tm M n cells slots pc' lv' st S) : Go G l R Tm M n cells slots pc lv (.int x :: st) S := by
  subst hp
  subst hv
  intro p e s m args below meth c H locs ls C hn hS hW hl
  exact lv_istore C.1 C.2.1 hd hl hi (by rw [am_filter]; rfl) (fun ls' hl' => k p e s m args below meth c H locs ls' C hn hS hW hl')

theorem Go.astore_n {i : Fin 4} {x : Nat} (pc' : Nat) (lv' : List (Nat × Value)) (hp : pc + 1 = pc') (hd : decode M.1 pc = .ok (.astore_n i, 1)) (hi : (i : Nat) < M.2.1) (hv : ((i : Nat), Value.ref x) :: lv.filter (fun q => !(q.1 == (i : Nat)) && !(q.1 + 1 == (i : Nat) && q.2.category == 2)) = lv') (k : Go G l R Tm M n cells slots pc' lv' st S) : Go G l R Tm M n cells slots pc lv (.ref x :: st) S := by
  subst hp
  subst hv
  intro p e s m args below meth c H locs ls C hn hS hW hl
  exact lv_astore_n C.1 C.2.1 hd rfl hl hi (by rw [am_filter]; rfl) (fun ls' hl' => k p e s m args below meth c H locs ls' C hn hS hW hl')

theorem Go.astore {i : Nat} {x : Nat} (pc' : Nat) (lv' : List (Nat × Value)) (hp : pc + 2 = pc') (hd : decode M.1 pc = .ok (.astore i, 2)) (hi : i < M.2.1) (hv : (i, Value.ref x) :: lv.filter (fun q => !(q.1 == i) && !(q.1 + 1 == i && q.2.category == 2)) = lv') (k : Go G l R Tm M n cells slots pc' lv' st S) : Go G l R Tm M n cells slots pc lv (.ref x :: st) S := by
  subst hp
  subst hv
  intro p e s m args below meth c H locs ls C hn hS hW hl
  exact lv_astore C.1 C.2.1 hd hl hi (by rw [am_filter]; rfl) (fun ls' hl' => k p e s m args below meth c H locs ls' C hn hS hW hl')

theorem Go.lstore_n {i : Fin 4} {x : Int64} (pc' : Nat) (lv' : List (Nat × Value)) (hp : pc + 1 = pc') (hd : decode M.1 pc = .ok (.lstore_n i, 1)) (hi : (i : Nat) + 1 < M.2.1) (hv : ((i : Nat), Value.long x) :: lv.filter (fun q => !(q.1 == (i : Nat)) && (!(q.1 == (i : Nat) + 1) && !(q.1 + 1 == (i : Nat) && q.2.category == 2))) = lv') (k : Go G l R Tm M n cells slots pc' lv' st S) : Go G l R Tm M n cells slots pc lv (.long x :: st) S := by
  subst hp
  subst hv
  intro p e s m args below meth c H locs ls C hn hS hW hl
  exact lv_lstore_n C.1 C.2.1 hd rfl hl hi (by rw [am_filterL]; rfl) (fun ls' hl' => k p e s m args below meth c H locs ls' C hn hS hW hl')

theorem Go.lstore {i : Nat} {x : Int64} (pc' : Nat) (lv' : List (Nat × Value)) (hp : pc + 2 = pc') (hd : decode M.1 pc = .ok (.lstore i, 2)) (hi : i + 1 < M.2.1) (hv : (i, Value.long x) :: lv.filter (fun q => !(q.1 == i) && (!(q.1 == i + 1) && !(q.1 + 1 == i && q.2.category == 2))) = lv') (k : Go G l R Tm M n cells slots pc' lv' st S) : Go G l R Tm M n cells slots pc lv (.long x :: st) S := by
  subst hp
  subst hv
  intro p e s m args below meth c H locs ls C hn hS hW hl
  exact lv_lstore C.1 C.2.1 hd hl hi (by rw [am_filterL]; rfl) (fun ls' hl' => k p e s m args below meth c H locs ls' C hn hS hW hl')

theorem Go.iinc {i : Nat} {d : Int} {x : Int32} (j : Nat) (pc' : Nat) (y : Int32) (lv' : List (Nat × Value)) (hp : pc + 3 = pc') (hd : decode M.1 pc = .ok (.iinc i d, 3)) (hj : lv[j]? = some (i, .int x)) (hy : x + Int32.ofInt d = y) (hi : i < M.2.1) (hv : (i, Value.int y) :: lv.filter (fun q => !(q.1 == i) && !(q.1 + 1 == i && q.2.category == 2)) = lv') (k : Go G l R Tm M n cells slots pc' lv' st S) : Go G l R Tm M n cells slots pc lv st S := by
  subst hp
  subst hv
  intro p e s m args below meth c H locs ls C hn hS hW hl
  exact lv_iinc C.1 C.2.1 hd hl (k := j) (by rw [List.getElem?_map, hj]; rfl) hy hi (by rw [am_filter]; rfl) (fun ls' hl' => k p e s m args below meth c H locs ls' C hn hS hW hl')

theorem Go.iconst {z : Int} (v : Int32) (pc' : Nat) (hp : pc + 1 = pc') (hd : decode M.1 pc = .ok (.iconst z, 1)) (hv : Int32.ofInt z = v) (k : Go G l R Tm M n cells slots pc' lv (.int v :: st) S) : Go G l R Tm M n cells slots pc lv (st) S := by
  subst hp
  intro p e s m args below meth c H locs ls C hn hS hW hl
  exact lv_iconst C.1 C.2.1 hd hv (k p e s m args below meth c H locs ls C hn hS hW hl)

theorem Go.bipush {z : Int} (v : Int32) (pc' : Nat) (hp : pc + 2 = pc') (hd : decode M.1 pc = .ok (.bipush z, 2)) (hv : (Int8.ofInt z).toInt32 = v) (k : Go G l R Tm M n cells slots pc' lv (.int v :: st) S) : Go G l R Tm M n cells slots pc lv (st) S := by
  subst hp
  intro p e s m args below meth c H locs ls C hn hS hW hl
  exact lv_bipush C.1 C.2.1 hd hv (k p e s m args below meth c H locs ls C hn hS hW hl)

theorem Go.sipush {z : Int} (v : Int32) (pc' : Nat) (hp : pc + 3 = pc') (hd : decode M.1 pc = .ok (.sipush z, 3)) (hv : (Int16.ofInt z).toInt32 = v) (k : Go G l R Tm M n cells slots pc' lv (.int v :: st) S) : Go G l R Tm M n cells slots pc lv (st) S := by
  subst hp
  intro p e s m args below meth c H locs ls C hn hS hW hl
  exact lv_sipush C.1 C.2.1 hd hv (k p e s m args below meth c H locs ls C hn hS hW hl)

theorem Go.lconst {z : Fin 2} (v : Int64) (pc' : Nat) (hp : pc + 1 = pc') (hd : decode M.1 pc = .ok (.lconst z, 1)) (hv : Int64.ofNat (z : Nat) = v) (k : Go G l R Tm M n cells slots pc' lv (.long v :: st) S) : Go G l R Tm M n cells slots pc lv (st) S := by
  subst hp
  intro p e s m args below meth c H locs ls C hn hS hW hl
  exact lv_lconst C.1 C.2.1 hd hv (k p e s m args below meth c H locs ls C hn hS hW hl)

theorem Go.ldc {ix : Nat} (v : Int32) (pc' : Nat) (hp : pc + 2 = pc') (hd : decode M.1 pc = .ok (.ldc ix, 2)) (hw : Cond.constant M.2.2.2.1 ix v ∈ lw_g) (k : Go G l R Tm M n cells slots pc' lv (.int v :: st) S) : Go G l R Tm M n cells slots pc lv (st) S := by
  subst hp
  intro p e s m args below meth c H locs ls C hn hS hW hl
  exact lv_ldc C.1 C.2.1 C.2.2.2.2.1 (C.2.2.2.2.2.2.2.1 _ hw) hd (k p e s m args below meth c H locs ls C hn hS hW hl)

theorem Go.ldcw {ix : Nat} (v : Int32) (pc' : Nat) (hp : pc + 3 = pc') (hd : decode M.1 pc = .ok (.ldc_w ix, 3)) (hw : Cond.constant M.2.2.2.1 ix v ∈ lw_g) (k : Go G l R Tm M n cells slots pc' lv (.int v :: st) S) : Go G l R Tm M n cells slots pc lv (st) S := by
  subst hp
  intro p e s m args below meth c H locs ls C hn hS hW hl
  exact lv_ldcw C.1 C.2.1 C.2.2.2.2.1 (C.2.2.2.2.2.2.2.1 _ hw) hd (k p e s m args below meth c H locs ls C hn hS hW hl)

theorem Go.ldc2 {ix : Nat} (v : Int64) (pc' : Nat) (hp : pc + 3 = pc') (hd : decode M.1 pc = .ok (.ldc2_w ix, 3)) (hw : Cond.constantLong M.2.2.2.1 ix v ∈ lw_g) (k : Go G l R Tm M n cells slots pc' lv (.long v :: st) S) : Go G l R Tm M n cells slots pc lv (st) S := by
  subst hp
  intro p e s m args below meth c H locs ls C hn hS hW hl
  exact lv_ldc2 C.1 C.2.1 C.2.2.2.2.1 (C.2.2.2.2.2.2.2.1 _ hw) hd (k p e s m args below meth c H locs ls C hn hS hW hl)

theorem Go.iadd {x y : Int32} (pc' : Nat) (hp : pc + 1 = pc') (hd : decode M.1 pc = .ok (.iadd, 1)) (k : Go G l R Tm M n cells slots pc' lv (.int (x + y) :: st) S) : Go G l R Tm M n cells slots pc lv (.int y :: .int x :: st) S := by
  subst hp
  intro p e s m args below meth c H locs ls C hn hS hW hl
  exact lv_iadd C.1 C.2.1 hd (k p e s m args below meth c H locs ls C hn hS hW hl)

theorem Go.isub {x y : Int32} (pc' : Nat) (hp : pc + 1 = pc') (hd : decode M.1 pc = .ok (.isub, 1)) (k : Go G l R Tm M n cells slots pc' lv (.int (x - y) :: st) S) : Go G l R Tm M n cells slots pc lv (.int y :: .int x :: st) S := by
  subst hp
  intro p e s m args below meth c H locs ls C hn hS hW hl
  exact lv_isub C.1 C.2.1 hd (k p e s m args below meth c H locs ls C hn hS hW hl)

theorem Go.imul {x y : Int32} (pc' : Nat) (hp : pc + 1 = pc') (hd : decode M.1 pc = .ok (.imul, 1)) (k : Go G l R Tm M n cells slots pc' lv (.int (x * y) :: st) S) : Go G l R Tm M n cells slots pc lv (.int y :: .int x :: st) S := by
  subst hp
  intro p e s m args below meth c H locs ls C hn hS hW hl
  exact lv_imul C.1 C.2.1 hd (k p e s m args below meth c H locs ls C hn hS hW hl)

theorem Go.iand {x y : Int32} (pc' : Nat) (hp : pc + 1 = pc') (hd : decode M.1 pc = .ok (.iand, 1)) (k : Go G l R Tm M n cells slots pc' lv (.int (x &&& y) :: st) S) : Go G l R Tm M n cells slots pc lv (.int y :: .int x :: st) S := by
  subst hp
  intro p e s m args below meth c H locs ls C hn hS hW hl
  exact lv_iand C.1 C.2.1 hd (k p e s m args below meth c H locs ls C hn hS hW hl)

theorem Go.ior {x y : Int32} (pc' : Nat) (hp : pc + 1 = pc') (hd : decode M.1 pc = .ok (.ior, 1)) (k : Go G l R Tm M n cells slots pc' lv (.int (x ||| y) :: st) S) : Go G l R Tm M n cells slots pc lv (.int y :: .int x :: st) S := by
  subst hp
  intro p e s m args below meth c H locs ls C hn hS hW hl
  exact lv_ior C.1 C.2.1 hd (k p e s m args below meth c H locs ls C hn hS hW hl)

theorem Go.ixor {x y : Int32} (pc' : Nat) (hp : pc + 1 = pc') (hd : decode M.1 pc = .ok (.ixor, 1)) (k : Go G l R Tm M n cells slots pc' lv (.int (x ^^^ y) :: st) S) : Go G l R Tm M n cells slots pc lv (.int y :: .int x :: st) S := by
  subst hp
  intro p e s m args below meth c H locs ls C hn hS hW hl
  exact lv_ixor C.1 C.2.1 hd (k p e s m args below meth c H locs ls C hn hS hW hl)

theorem Go.ishl {x y : Int32} (pc' : Nat) (hp : pc + 1 = pc') (hd : decode M.1 pc = .ok (.ishl, 1)) (k : Go G l R Tm M n cells slots pc' lv (.int (x <<< (y &&& 31)) :: st) S) : Go G l R Tm M n cells slots pc lv (.int y :: .int x :: st) S := by
  subst hp
  intro p e s m args below meth c H locs ls C hn hS hW hl
  exact lv_ishl C.1 C.2.1 hd (k p e s m args below meth c H locs ls C hn hS hW hl)

theorem Go.ishr {x y : Int32} (pc' : Nat) (hp : pc + 1 = pc') (hd : decode M.1 pc = .ok (.ishr, 1)) (k : Go G l R Tm M n cells slots pc' lv (.int (x >>> (y &&& 31)) :: st) S) : Go G l R Tm M n cells slots pc lv (.int y :: .int x :: st) S := by
  subst hp
  intro p e s m args below meth c H locs ls C hn hS hW hl
  exact lv_ishr C.1 C.2.1 hd (k p e s m args below meth c H locs ls C hn hS hW hl)

theorem Go.iushr {x y : Int32} (pc' : Nat) (hp : pc + 1 = pc') (hd : decode M.1 pc = .ok (.iushr, 1)) (k : Go G l R Tm M n cells slots pc' lv (.int (x.toUInt32 >>> (y.toUInt32 &&& Int32.toUInt32 31)).toInt32 :: st) S) : Go G l R Tm M n cells slots pc lv (.int y :: .int x :: st) S := by
  subst hp
  intro p e s m args below meth c H locs ls C hn hS hW hl
  exact lv_iushr C.1 C.2.1 hd rfl (k p e s m args below meth c H locs ls C hn hS hW hl)

theorem Go.idiv {x y : Int32} (pc' : Nat) (hp : pc + 1 = pc') (hd : decode M.1 pc = .ok (.idiv, 1)) (h0 : ¬ y = 0) (k : Go G l R Tm M n cells slots pc' lv (.int (x / y) :: st) S) : Go G l R Tm M n cells slots pc lv (.int y :: .int x :: st) S := by
  subst hp
  intro p e s m args below meth c H locs ls C hn hS hW hl
  exact lv_idiv C.1 C.2.1 hd h0 (k p e s m args below meth c H locs ls C hn hS hW hl)

theorem Go.irem {x y : Int32} (pc' : Nat) (hp : pc + 1 = pc') (hd : decode M.1 pc = .ok (.irem, 1)) (h0 : ¬ y = 0) (k : Go G l R Tm M n cells slots pc' lv (.int (x - x / y * y) :: st) S) : Go G l R Tm M n cells slots pc lv (.int y :: .int x :: st) S := by
  subst hp
  intro p e s m args below meth c H locs ls C hn hS hW hl
  exact lv_irem C.1 C.2.1 hd h0 (k p e s m args below meth c H locs ls C hn hS hW hl)

theorem Go.ladd {x y : Int64} (pc' : Nat) (hp : pc + 1 = pc') (hd : decode M.1 pc = .ok (.ladd, 1)) (k : Go G l R Tm M n cells slots pc' lv (.long (x + y) :: st) S) : Go G l R Tm M n cells slots pc lv (.long y :: .long x :: st) S := by
  subst hp
  intro p e s m args below meth c H locs ls C hn hS hW hl
  exact lv_ladd C.1 C.2.1 hd (k p e s m args below meth c H locs ls C hn hS hW hl)

theorem Go.lsub {x y : Int64} (pc' : Nat) (hp : pc + 1 = pc') (hd : decode M.1 pc = .ok (.lsub, 1)) (k : Go G l R Tm M n cells slots pc' lv (.long (x - y) :: st) S) : Go G l R Tm M n cells slots pc lv (.long y :: .long x :: st) S := by
  subst hp
  intro p e s m args below meth c H locs ls C hn hS hW hl
  exact lv_lsub C.1 C.2.1 hd (k p e s m args below meth c H locs ls C hn hS hW hl)

theorem Go.lmul {x y : Int64} (pc' : Nat) (hp : pc + 1 = pc') (hd : decode M.1 pc = .ok (.lmul, 1)) (k : Go G l R Tm M n cells slots pc' lv (.long (x * y) :: st) S) : Go G l R Tm M n cells slots pc lv (.long y :: .long x :: st) S := by
  subst hp
  intro p e s m args below meth c H locs ls C hn hS hW hl
  exact lv_lmul C.1 C.2.1 hd (k p e s m args below meth c H locs ls C hn hS hW hl)

theorem Go.ldiv {x y : Int64} (pc' : Nat) (hp : pc + 1 = pc') (hd : decode M.1 pc = .ok (.ldiv, 1)) (h0 : ¬ y = 0) (k : Go G l R Tm M n cells slots pc' lv (.long (x / y) :: st) S) : Go G l R Tm M n cells slots pc lv (.long y :: .long x :: st) S := by
  subst hp
  intro p e s m args below meth c H locs ls C hn hS hW hl
  exact lv_ldiv C.1 C.2.1 hd h0 (k p e s m args below meth c H locs ls C hn hS hW hl)

theorem Go.lrem {x y : Int64} (pc' : Nat) (hp : pc + 1 = pc') (hd : decode M.1 pc = .ok (.lrem, 1)) (h0 : ¬ y = 0) (k : Go G l R Tm M n cells slots pc' lv (.long (x - x / y * y) :: st) S) : Go G l R Tm M n cells slots pc lv (.long y :: .long x :: st) S := by
  subst hp
  intro p e s m args below meth c H locs ls C hn hS hW hl
  exact lv_lrem C.1 C.2.1 hd h0 (k p e s m args below meth c H locs ls C hn hS hW hl)

theorem Go.ineg {x : Int32} (pc' : Nat) (hp : pc + 1 = pc') (hd : decode M.1 pc = .ok (.ineg, 1)) (k : Go G l R Tm M n cells slots pc' lv (.int (-x) :: st) S) : Go G l R Tm M n cells slots pc lv (.int x :: st) S := by
  subst hp
  intro p e s m args below meth c H locs ls C hn hS hW hl
  exact lv_ineg C.1 C.2.1 hd (k p e s m args below meth c H locs ls C hn hS hW hl)

theorem Go.i2l {x : Int32} (pc' : Nat) (hp : pc + 1 = pc') (hd : decode M.1 pc = .ok (.i2l, 1)) (k : Go G l R Tm M n cells slots pc' lv (.long x.toInt64 :: st) S) : Go G l R Tm M n cells slots pc lv (.int x :: st) S := by
  subst hp
  intro p e s m args below meth c H locs ls C hn hS hW hl
  exact lv_i2l C.1 C.2.1 hd rfl (k p e s m args below meth c H locs ls C hn hS hW hl)

theorem Go.l2i {x : Int64} (pc' : Nat) (hp : pc + 1 = pc') (hd : decode M.1 pc = .ok (.l2i, 1)) (k : Go G l R Tm M n cells slots pc' lv (.int x.toInt32 :: st) S) : Go G l R Tm M n cells slots pc lv (.long x :: st) S := by
  subst hp
  intro p e s m args below meth c H locs ls C hn hS hW hl
  exact lv_l2i C.1 C.2.1 hd rfl (k p e s m args below meth c H locs ls C hn hS hW hl)

theorem Go.i2b {x : Int32} (pc' : Nat) (hp : pc + 1 = pc') (hd : decode M.1 pc = .ok (.i2b, 1)) (k : Go G l R Tm M n cells slots pc' lv (.int x.toInt8.toInt32 :: st) S) : Go G l R Tm M n cells slots pc lv (.int x :: st) S := by
  subst hp
  intro p e s m args below meth c H locs ls C hn hS hW hl
  exact lv_i2b C.1 C.2.1 hd rfl (k p e s m args below meth c H locs ls C hn hS hW hl)

theorem Go.lcmp {x y : Int64} (pc' : Nat) (hp : pc + 1 = pc') (hd : decode M.1 pc = .ok (.lcmp, 1)) (k : Go G l R Tm M n cells slots pc' lv (.int (lg_cmp x y) :: st) S) : Go G l R Tm M n cells slots pc lv (.long y :: .long x :: st) S := by
  subst hp
  intro p e s m args below meth c H locs ls C hn hS hW hl
  exact W.lcmp C.1 C.2.1 hd (k p e s m args below meth c H locs ls C hn hS hW hl)

theorem Go.dup {v : Value} (pc' : Nat) (hp : pc + 1 = pc') (hd : decode M.1 pc = .ok (.dup, 1)) (hc : v.category = 1) (k : Go G l R Tm M n cells slots pc' lv (v :: v :: st) S) : Go G l R Tm M n cells slots pc lv (v :: st) S := by
  subst hp
  intro p e s m args below meth c H locs ls C hn hS hW hl
  exact lv_dup C.1 C.2.1 hd ((cV_cat G v).trans hc) (k p e s m args below meth c H locs ls C hn hS hW hl)

theorem Go.dup2 {v w : Value} (pc' : Nat) (hp : pc + 1 = pc') (hd : decode M.1 pc = .ok (.dup2, 1)) (hc : v.category = 1) (hc2 : w.category = 1) (k : Go G l R Tm M n cells slots pc' lv (v :: w :: v :: w :: st) S) : Go G l R Tm M n cells slots pc lv (v :: w :: st) S := by
  subst hp
  intro p e s m args below meth c H locs ls C hn hS hW hl
  exact lv_dup2_11 C.1 C.2.1 hd ((cV_cat G v).trans hc) ((cV_cat G w).trans hc2) (k p e s m args below meth c H locs ls C hn hS hW hl)

theorem Go.icmp_eq {x y : Int32} {off : Int} (tgt pc' : Nat) (hp : pc + 3 = pc') (hd : decode M.1 pc = .ok (.if_icmp .eq off, 3)) (ht : (pc : Int) + off = (tgt : Int)) (kt : x = y → Go G l R Tm M n cells slots tgt lv st S) (kf : ¬ x = y → Go G l R Tm M n cells slots pc' lv st S) : Go G l R Tm M n cells slots pc lv (.int y :: .int x :: st) S := by
  subst hp
  intro p e s m args below meth c H locs ls C hn hS hW hl
  exact lv_icmp_eq C.1 C.2.1 hd ht (fun h => kt h p e s m args below meth c H locs ls C hn hS hW hl) (fun h => kf h p e s m args below meth c H locs ls C hn hS hW hl)

theorem Go.icmp_ne {x y : Int32} {off : Int} (tgt pc' : Nat) (hp : pc + 3 = pc') (hd : decode M.1 pc = .ok (.if_icmp .ne off, 3)) (ht : (pc : Int) + off = (tgt : Int)) (kt : ¬ x = y → Go G l R Tm M n cells slots tgt lv st S) (kf : x = y → Go G l R Tm M n cells slots pc' lv st S) : Go G l R Tm M n cells slots pc lv (.int y :: .int x :: st) S := by
  subst hp
  intro p e s m args below meth c H locs ls C hn hS hW hl
  exact lv_icmp_ne C.1 C.2.1 hd ht (fun h => kt h p e s m args below meth c H locs ls C hn hS hW hl) (fun h => kf h p e s m args below meth c H locs ls C hn hS hW hl)

theorem Go.icmp_lt {x y : Int32} {off : Int} (tgt pc' : Nat) (hp : pc + 3 = pc') (hd : decode M.1 pc = .ok (.if_icmp .lt off, 3)) (ht : (pc : Int) + off = (tgt : Int)) (kt : x < y → Go G l R Tm M n cells slots tgt lv st S) (kf : ¬ x < y → Go G l R Tm M n cells slots pc' lv st S) : Go G l R Tm M n cells slots pc lv (.int y :: .int x :: st) S := by
  subst hp
  intro p e s m args below meth c H locs ls C hn hS hW hl
  exact lv_icmp_lt C.1 C.2.1 hd ht (fun h => kt h p e s m args below meth c H locs ls C hn hS hW hl) (fun h => kf h p e s m args below meth c H locs ls C hn hS hW hl)

theorem Go.icmp_ge {x y : Int32} {off : Int} (tgt pc' : Nat) (hp : pc + 3 = pc') (hd : decode M.1 pc = .ok (.if_icmp .ge off, 3)) (ht : (pc : Int) + off = (tgt : Int)) (kt : y ≤ x → Go G l R Tm M n cells slots tgt lv st S) (kf : ¬ y ≤ x → Go G l R Tm M n cells slots pc' lv st S) : Go G l R Tm M n cells slots pc lv (.int y :: .int x :: st) S := by
  subst hp
  intro p e s m args below meth c H locs ls C hn hS hW hl
  exact lv_icmp_ge C.1 C.2.1 hd ht (fun h => kt h p e s m args below meth c H locs ls C hn hS hW hl) (fun h => kf h p e s m args below meth c H locs ls C hn hS hW hl)

theorem Go.icmp_gt {x y : Int32} {off : Int} (tgt pc' : Nat) (hp : pc + 3 = pc') (hd : decode M.1 pc = .ok (.if_icmp .gt off, 3)) (ht : (pc : Int) + off = (tgt : Int)) (kt : y < x → Go G l R Tm M n cells slots tgt lv st S) (kf : ¬ y < x → Go G l R Tm M n cells slots pc' lv st S) : Go G l R Tm M n cells slots pc lv (.int y :: .int x :: st) S := by
  subst hp
  intro p e s m args below meth c H locs ls C hn hS hW hl
  exact lv_icmp_gt C.1 C.2.1 hd ht (fun h => kt h p e s m args below meth c H locs ls C hn hS hW hl) (fun h => kf h p e s m args below meth c H locs ls C hn hS hW hl)

theorem Go.icmp_le {x y : Int32} {off : Int} (tgt pc' : Nat) (hp : pc + 3 = pc') (hd : decode M.1 pc = .ok (.if_icmp .le off, 3)) (ht : (pc : Int) + off = (tgt : Int)) (kt : x ≤ y → Go G l R Tm M n cells slots tgt lv st S) (kf : ¬ x ≤ y → Go G l R Tm M n cells slots pc' lv st S) : Go G l R Tm M n cells slots pc lv (.int y :: .int x :: st) S := by
  subst hp
  intro p e s m args below meth c H locs ls C hn hS hW hl
  exact lv_icmp_le C.1 C.2.1 hd ht (fun h => kt h p e s m args below meth c H locs ls C hn hS hW hl) (fun h => kf h p e s m args below meth c H locs ls C hn hS hW hl)

theorem Go.if_eq {x : Int32} {off : Int} (tgt pc' : Nat) (hp : pc + 3 = pc') (hd : decode M.1 pc = .ok (.ifCond .eq off, 3)) (ht : (pc : Int) + off = (tgt : Int)) (kt : x = 0 → Go G l R Tm M n cells slots tgt lv st S) (kf : ¬ x = 0 → Go G l R Tm M n cells slots pc' lv st S) : Go G l R Tm M n cells slots pc lv (.int x :: st) S := by
  subst hp
  intro p e s m args below meth c H locs ls C hn hS hW hl
  exact lv_if_eq C.1 C.2.1 hd ht (fun h => kt h p e s m args below meth c H locs ls C hn hS hW hl) (fun h => kf h p e s m args below meth c H locs ls C hn hS hW hl)

theorem Go.if_ne {x : Int32} {off : Int} (tgt pc' : Nat) (hp : pc + 3 = pc') (hd : decode M.1 pc = .ok (.ifCond .ne off, 3)) (ht : (pc : Int) + off = (tgt : Int)) (kt : ¬ x = 0 → Go G l R Tm M n cells slots tgt lv st S) (kf : x = 0 → Go G l R Tm M n cells slots pc' lv st S) : Go G l R Tm M n cells slots pc lv (.int x :: st) S := by
  subst hp
  intro p e s m args below meth c H locs ls C hn hS hW hl
  exact lv_if_ne C.1 C.2.1 hd ht (fun h => kt h p e s m args below meth c H locs ls C hn hS hW hl) (fun h => kf h p e s m args below meth c H locs ls C hn hS hW hl)

theorem Go.if_lt {x : Int32} {off : Int} (tgt pc' : Nat) (hp : pc + 3 = pc') (hd : decode M.1 pc = .ok (.ifCond .lt off, 3)) (ht : (pc : Int) + off = (tgt : Int)) (kt : x < 0 → Go G l R Tm M n cells slots tgt lv st S) (kf : ¬ x < 0 → Go G l R Tm M n cells slots pc' lv st S) : Go G l R Tm M n cells slots pc lv (.int x :: st) S := by
  subst hp
  intro p e s m args below meth c H locs ls C hn hS hW hl
  exact lv_if_lt C.1 C.2.1 hd ht (fun h => kt h p e s m args below meth c H locs ls C hn hS hW hl) (fun h => kf h p e s m args below meth c H locs ls C hn hS hW hl)

theorem Go.if_ge {x : Int32} {off : Int} (tgt pc' : Nat) (hp : pc + 3 = pc') (hd : decode M.1 pc = .ok (.ifCond .ge off, 3)) (ht : (pc : Int) + off = (tgt : Int)) (kt : 0 ≤ x → Go G l R Tm M n cells slots tgt lv st S) (kf : ¬ 0 ≤ x → Go G l R Tm M n cells slots pc' lv st S) : Go G l R Tm M n cells slots pc lv (.int x :: st) S := by
  subst hp
  intro p e s m args below meth c H locs ls C hn hS hW hl
  exact lv_if_ge C.1 C.2.1 hd ht (fun h => kt h p e s m args below meth c H locs ls C hn hS hW hl) (fun h => kf h p e s m args below meth c H locs ls C hn hS hW hl)

theorem Go.if_gt {x : Int32} {off : Int} (tgt pc' : Nat) (hp : pc + 3 = pc') (hd : decode M.1 pc = .ok (.ifCond .gt off, 3)) (ht : (pc : Int) + off = (tgt : Int)) (kt : 0 < x → Go G l R Tm M n cells slots tgt lv st S) (kf : ¬ 0 < x → Go G l R Tm M n cells slots pc' lv st S) : Go G l R Tm M n cells slots pc lv (.int x :: st) S := by
  subst hp
  intro p e s m args below meth c H locs ls C hn hS hW hl
  exact lv_if_gt C.1 C.2.1 hd ht (fun h => kt h p e s m args below meth c H locs ls C hn hS hW hl) (fun h => kf h p e s m args below meth c H locs ls C hn hS hW hl)

theorem Go.if_le {x : Int32} {off : Int} (tgt pc' : Nat) (hp : pc + 3 = pc') (hd : decode M.1 pc = .ok (.ifCond .le off, 3)) (ht : (pc : Int) + off = (tgt : Int)) (kt : x ≤ 0 → Go G l R Tm M n cells slots tgt lv st S) (kf : ¬ x ≤ 0 → Go G l R Tm M n cells slots pc' lv st S) : Go G l R Tm M n cells slots pc lv (.int x :: st) S := by
  subst hp
  intro p e s m args below meth c H locs ls C hn hS hW hl
  exact lv_if_le C.1 C.2.1 hd ht (fun h => kt h p e s m args below meth c H locs ls C hn hS hW hl) (fun h => kf h p e s m args below meth c H locs ls C hn hS hW hl)

theorem Go.goto {off : Int} (tgt : Nat) (hd : decode M.1 pc = .ok (.goto off, 3)) (ht : (pc : Int) + off = (tgt : Int)) (k : Go G l R Tm M n cells slots tgt lv st S) : Go G l R Tm M n cells slots pc lv st S := by
  intro p e s m args below meth c H locs ls C hn hS hW hl
  exact lv_goto C.1 C.2.1 hd ht (k p e s m args below meth c H locs ls C hn hS hW hl)

theorem Go.tin {dflt lo hi : Int} {offs : Array Int} {len : Nat} {x : Int32} {off : Int} (v : Int32) (tgt : Nat) (hx : x = v) (hd : decode M.1 pc = .ok (.tableswitch dflt lo hi offs, len)) (h1 : ¬ v.toInt < lo) (h2 : ¬ hi < v.toInt) (ho : offs[(v.toInt - lo).toNat]? = some off) (ht : (pc : Int) + off = (tgt : Int)) (k : Go G l R Tm M n cells slots tgt lv st S) : Go G l R Tm M n cells slots pc lv (.int x :: st) S := by
  subst hx
  intro p e s m args below meth c H locs ls C hn hS hW hl
  exact lv_tableIn C.1 C.2.1 hd h1 h2 ho ht (k p e s m args below meth c H locs ls C hn hS hW hl)

theorem Go.tout {dflt lo hi : Int} {offs : Array Int} {len : Nat} {x : Int32} (tgt : Nat) (hd : decode M.1 pc = .ok (.tableswitch dflt lo hi offs, len)) (h : x.toInt < lo ∨ hi < x.toInt) (ht : (pc : Int) + dflt = (tgt : Int)) (k : Go G l R Tm M n cells slots tgt lv st S) : Go G l R Tm M n cells slots pc lv (.int x :: st) S := by
  intro p e s m args below meth c H locs ls C hn hS hW hl
  exact lv_tableOut C.1 C.2.1 hd h ht (k p e s m args below meth c H locs ls C hn hS hW hl)

/-- fewer locals, in another order -/
theorem Go.sub (ks : List Nat) (lv' : List (Nat × Value)) (h : lv_pick lv ks = lv') (k : Go G l R Tm M n cells slots pc lv' st S) : Go G l R Tm M n cells slots pc lv st S := by
  intro p e s m args below meth c H locs ls C hn hS hW hl
  refine k p e s m args below meth c H locs ls C hn hS hW (lv_sub hl ks ?_)
  subst h
  simp [lv_pick, List.map_filterMap, Function.comp_def]

end GO
end
section
/-! Rows of 'Go' over the heap: fields, arrays. -/
theorem w_size {p : Program} {l : Launch} {e : Env} {R : Room} {s : State} {m : MethodId} {args : Array Value} {below : List Frame} {meth : Method} {c : Code} {H : Heap} {locs : List Loc} {cells slots : Nat} {Q : State → Prop} {g : JFrame} (k : H.size ≤ s.heap.size + cells → W p l e R s m args below meth c H locs cells slots Q g) : W p l e R s m args below meth c H locs cells slots Q g :=
  fun T hT X => k (by rw [← hT]; exact X.same.2.2.1) T hT X
def aFl (own : String) (ix ci j : Nat) : Prop := ∃ (C : String) (T : u_T) (N : Nat), vwCl[ci]? = some (C, T, N) ∧ j < N ∧ (∀ w ∈ u_ws C T N, w ∈ lw_g) ∧ (Cond.fieldLink own ix (T j).1 (T j).2.1 (T j).2.2.1 ∈ lw_g ∨ ∃ host, Cond.fieldLinkNest own ix (T j).1 (T j).2.1 (T j).2.2.1 host ∈ lw_n)
def aFp (own : String) (ix ci j : Nat) (ty : FieldType) (fin : Bool) : Prop := ∃ (C : String) (T : u_T) (N : Nat) (ty0 : Nat → FieldType), vwCl[ci]? = some (C, T, N) ∧ j < N ∧ (∀ w ∈ u_ws C T N, w ∈ lw_g) ∧ (Cond.fieldLink own ix (T j).1 (T j).2.1 (T j).2.2.1 ∈ lw_g ∨ ((∃ host, Cond.fieldLinkNest own ix (T j).1 (T j).2.1 (T j).2.2.1 host ∈ lw_n) ∧ fin = false)) ∧ (∀ k, k < N → parseFieldDescriptor (T k).2.2.1 = some (ty0 k)) ∧ (∀ a, a < N → ∀ b, b < N → a ≠ b → (T a).2.1 ≠ (T b).2.1) ∧ (T j).2.2.2 = fin ∧ parseFieldDescriptor (T j).2.2.1 = some ty ∧ (fin = true → (T j).1 = own)
theorem am_cE_obj {G : aG} {S : aSt} {k tag : Nat} (h : (SH k).1 = tag) (ht : tag < 7) : am_cE G S k = .inr (tag, am_fs G S k) := by
  unfold am_cE
  rw [h]
  rcases tag with _ | _ | _ | _ | _ | _ | _ | t <;> first | rfl | omega
theorem am_cE_int {G : aG} {S : aSt} {k : Nat} (h : (SH k).1 = 7) : am_cE G S k = .inl ((gC G).1, (SH k).2, .inl (S.1 k)) := by simp [am_cE, h]
theorem am_cE_bool {G : aG} {S : aSt} {k : Nat} (h : (SH k).1 = 8) : am_cE G S k = .inl ((gC G).2.1, (SH k).2, .inl (S.1 k)) := by simp [am_cE, h]
theorem am_cE_rows {G : aG} {S : aSt} {k : Nat} (h : (SH k).1 = 9) : am_cE G S k = .inl ((gC G).2.2.1, (SH k).2, .inr (.inr (.inr (.inr (fun i => (S.2.2 k i).map (qa G)))))) := by simp [am_cE, h]
theorem am_cE_std {G : aG} {S : aSt} {k : Nat} (h : (SH k).1 = 10) : am_cE G S k = .inl ((gC G).2.2.2, (SH k).2, .inr (.inr (.inr (.inr (fun i => (S.2.2 k i).map (qa G)))))) := by simp [am_cE, h]
theorem vw_lt {ci : Nat} {q : vw_C} (h : vwCl[ci]? = some q) : ci < 7 := (List.getElem?_eq_some_iff.mp h).1
theorem am_fs_get {G : aG} {S : aSt} {k tag j ty : Nat} (h : (SH k).1 = tag) (hj : (ftys tag)[j]? = some ty) : (am_fs G S k)[j]? = some (am_fv G S k j ty) := by
  have hl := (List.getElem?_eq_some_iff.mp hj).1
  unfold am_fs
  rw [h, List.getElem?_map, List.getElem?_range hl]
  show some (am_fv G S k j ((ftys tag).getD j 0)) = _
  rw [List.getD_eq_getElem?_getD, hj]
  rfl
theorem am_fs_len {G : aG} {S : aSt} {k tag j ty : Nat} (h : (SH k).1 = tag) (hj : (ftys tag)[j]? = some ty) : j < (am_fs G S k).length := by
  have hl := (List.getElem?_eq_some_iff.mp hj).1
  unfold am_fs
  rw [h]
  simpa using hl
theorem am_fs_set {G : aG} {S S' : aSt} {k tag j ty : Nat} {v : Value} (h : (SH k).1 = tag) (hj : (ftys tag)[j]? = some ty) (hv : am_fv G S' k j ty = v) (ho : ∀ i t, i ≠ j → am_fv G S' k i t = am_fv G S k i t) : (am_fs G S k).set j v = am_fs G S' k := by
  have hl := (List.getElem?_eq_some_iff.mp hj).1
  apply List.ext_getElem?
  intro i
  by_cases hij : i = j
  · subst hij
    rw [List.getElem?_set_self (am_fs_len h hj), am_fs_get h hj, hv]
  · rw [List.getElem?_set_ne (Ne.symm hij)]
    unfold am_fs
    rw [List.getElem?_map, List.getElem?_map]
    by_cases hi : i < (ftys (SH k).1).length
    · rw [List.getElem?_range hi]
      show some (am_fv G S k i _) = some (am_fv G S' k i _)
      rw [ho i _ hij]
    · rw [List.getElem?_eq_none (by simpa using hi)]
      rfl
theorem am_old {G : aG} {s : State} {H : Heap} {locs : List Loc} (h : ∀ a, a < gB G → s.heap[a]? = G.1[a]?) (hS : va_S (gA G) s.heap H locs) : ∀ a, a < gB G → H[a]? = G.1[a]? := by
  intro a ha
  have h1 := h a ha
  by_cases hlt : a < s.heap.size
  · rw [hS.2.1 a hlt (by show ¬ gB G ≤ a; omega)]
    exact h1
  · rw [show G.1[a]? = some (G.1[a]'ha) from Array.getElem?_eq_getElem ha] at h1
    exact absurd (Array.getElem?_eq_some_iff.mp h1).1 hlt
section GH
variable {G : aG} {l : Launch} {R : Room} {Tm : List Frame → Array Value → State → State → Prop} {M : aM} {n cells slots pc : Nat} {lv : List (Nat × Value)} {st : List Value} {S : aSt}
theorem Go.getV {ix k tag j ty : Nat} (pc' : Nat) (hp : pc + 3 = pc') (hd : decode M.1 pc = .ok (.getfield ix, 3)) (hf : aFl M.2.2.2.1 ix tag j) (hj : (ftys tag)[j]? = some ty) (hk : k < n) (ht : (SH k).1 = tag) (v : Value) (hv : am_fv G S k j ty = cV G v) (kk : Go G l R Tm M n cells slots pc' lv (v :: st) S) : Go G l R Tm M n cells slots pc lv (.ref k :: st) S := by
  subst hp
  intro p e s m args below meth c H locs ls C hn hS hW hl
  obtain ⟨Cn, T, N, hc, hjN, hws, hlk⟩ := hf
  have hq : qa G k = gB G + k := qa_own (by have := hW.1; omega)
  have he : (aws G n S)[k]? = some (gB G + k, .inr (tag, am_fs G S k)) := by rw [aws_get hk, am_cE_obj ht (vw_lt hc)]
  have hfs := am_fs_get (G := G) (S := S) ht hj
  rw [hv] at hfs
  have hgo := kk p e s m args below meth c H locs ls C hn hS hW hl
  show W p l e R s m args below meth c H locs cells slots (Tm below args s) (F0 m pc ls (.ref (qa G k) :: st.map (cV G)))
  rw [hq]
  rcases hlk with hlk | ⟨host, hlk⟩
  · exact va_get C.1 C.2.1 C.2.2.2.2.2.2.2.1 hws C.2.2.2.2.1 C.2.2.2.2.2.2.2.2.1.1 hW.2.1 k he hc j hjN (C.2.2.2.2.2.2.2.1 _ hlk) (fun _ h9 => h9) hfs hd hgo
  · exact va_getN C.1 C.2.1 C.2.2.2.2.2.2.2.1 hws C.2.2.2.2.1 C.2.2.2.2.2.2.2.2.1.1 hW.2.1 k he hc j hjN (va_Nw.use rfl (C.2.2.2.2.2.2.2.2.1.2.1 _ hlk)) (fun _ h9 => h9) hfs hd hgo
theorem Go.getI {ix k tag j : Nat} (pc' : Nat) (hp : pc + 3 = pc') (hd : decode M.1 pc = .ok (.getfield ix, 3)) (hf : aFl M.2.2.2.1 ix tag j) (hj : (ftys tag)[j]? = some 0) (hk : k < n) (ht : (SH k).1 = tag) (kk : Go G l R Tm M n cells slots pc' lv (.int (S.1 k j) :: st) S) : Go G l R Tm M n cells slots pc lv (.ref k :: st) S := Go.getV pc' hp hd hf hj hk ht (.int (S.1 k j)) rfl kk
theorem Go.getL {ix k tag j : Nat} (pc' : Nat) (hp : pc + 3 = pc') (hd : decode M.1 pc = .ok (.getfield ix, 3)) (hf : aFl M.2.2.2.1 ix tag j) (hj : (ftys tag)[j]? = some 1) (hk : k < n) (ht : (SH k).1 = tag) (kk : Go G l R Tm M n cells slots pc' lv (.long (S.2.1 k j) :: st) S) : Go G l R Tm M n cells slots pc lv (.ref k :: st) S := Go.getV pc' hp hd hf hj hk ht (.long (S.2.1 k j)) rfl kk
theorem Go.getR {ix k tag j k' : Nat} (pc' : Nat) (hp : pc + 3 = pc') (hd : decode M.1 pc = .ok (.getfield ix, 3)) (hf : aFl M.2.2.2.1 ix tag j) (hj : (ftys tag)[j]? = some 2) (hk : k < n) (ht : (SH k).1 = tag) (hr : S.2.2 k j = some k') (kk : Go G l R Tm M n cells slots pc' lv (.ref k' :: st) S) : Go G l R Tm M n cells slots pc lv (.ref k :: st) S := Go.getV pc' hp hd hf hj hk ht (.ref k') (by show va_rf ((S.2.2 k j).map (qa G)) = _; rw [hr]; rfl) kk
theorem Go.putV {ix k tag j tyn : Nat} {ty : FieldType} {fin : Bool} {v : Value} (pc' : Nat) (S' : aSt) (hp : pc + 3 = pc') (hd : decode M.1 pc = .ok (.putfield ix, 3)) (hf : aFp M.2.2.2.1 ix tag j ty fin) (hj : (ftys tag)[j]? = some tyn) (hk : k < n) (ht : (SH k).1 = tag) (hnr : narrow ty (cV G v) = cV G v) (hfit : fits ty (cV G v) = true) (hfin : fin = true → M.2.2.2.2 = "<init>") (hv : am_fv G S' k j tyn = cV G v) (ho : ∀ i t, i ≠ j → am_fv G S' k i t = am_fv G S k i t) (ho2 : ∀ a, a ≠ k → am_cE G S' a = am_cE G S a) (kk : Go G l R Tm M n cells slots pc' lv st S') : Go G l R Tm M n cells slots pc lv (v :: .ref k :: st) S := by
  subst hp
  intro p e s m args below meth c H locs ls C hn hS hW hl
  obtain ⟨Cn, T, N, ty0, hc, hjN, hws, hlk, hty, hnm, hfi, hpd, hown⟩ := hf
  have hq : qa G k = gB G + k := qa_own (by have := hW.1; omega)
  have he : (aws G n S)[k]? = some (gB G + k, .inr (tag, am_fs G S k)) := by rw [aws_get hk, am_cE_obj ht (vw_lt hc)]
  have hset : (aws G n S).set k (gB G + k, .inr (tag, (am_fs G S k).set j (cV G v))) = aws G n S' := aws_set (by rw [am_cE_obj ht (vw_lt hc), am_fs_set ht hj hv ho]) ho2
  have hgo : ∀ (H1 : Heap) (locs1 : List Loc), va_P (gD G) vwCl ((aws G n S).set k (gB G + k, .inr (tag, (am_fs G S k).set j (cV G v)))) H1 → va_D (gA G) ((aws G n S).set k (gB G + k, .inr (tag, (am_fs G S k).set j (cV G v)))) → va_S (gA G) s.heap H1 locs1 → W p l e R s m args below meth c H1 locs1 cells slots (Tm below args s) (F0 m (pc + 3) ls (st.map (cV G))) := by
    intro H1 locs1 hP1 _ hS1
    rw [hset] at hP1
    exact kk p e s m args below meth c H1 locs1 ls C hn hS1 ⟨hW.1, hP1, am_old C.2.2.2.2.2.2.2.2.2 hS1⟩ hl
  show W p l e R s m args below meth c H locs cells slots (Tm below args s) (F0 m pc ls (cV G v :: .ref (qa G k) :: st.map (cV G)))
  rw [hq]
  cases fin with
  | false =>
    rcases hlk with hlk | ⟨⟨host, hlk⟩, -⟩
    · exact va_put C.1 C.2.1 C.2.2.2.2.2.2.2.1 hws ty0 hty hnm C.2.2.2.2.1 C.2.2.2.2.2.2.2.2.1.1 hW.2.1 (aws_D G n S) hS k he hc j hjN (C.2.2.2.2.2.2.2.1 _ hlk) (fun _ h9 => h9) hfi hpd hnr hfit (am_fs_len ht hj) hd hgo
    · exact va_putN C.1 C.2.1 C.2.2.2.2.2.2.2.1 hws ty0 hty hnm C.2.2.2.2.1 C.2.2.2.2.2.2.2.2.1.1 hW.2.1 (aws_D G n S) hS k he hc j hjN (va_Nw.use rfl (C.2.2.2.2.2.2.2.2.1.2.1 _ hlk)) (fun _ h9 => h9) hfi hpd hnr hfit (am_fs_len ht hj) hd hgo
  | true =>
    rcases hlk with hlk | ⟨-, h0⟩
    · exact va_putF C.1 C.2.1 C.2.2.2.2.2.2.2.1 hws ty0 hty hnm C.2.2.2.2.1 C.2.2.2.2.2.2.2.2.1.1 hW.2.1 (aws_D G n S) hS k he hc j hjN (C.2.2.2.2.2.2.2.1 _ hlk) (fun _ h9 => h9) hfi (C.2.2.2.2.2.1.trans (hfin rfl)) (hown rfl) hpd hnr hfit (am_fs_len ht hj) hd hgo
    · cases h0
theorem am_fv_ne {G : aG} {S S' : aSt} {k i t : Nat} (h1 : S'.1 k i = S.1 k i) (h2 : S'.2.1 k i = S.2.1 k i) (h3 : S'.2.2 k i = S.2.2 k i) : am_fv G S' k i t = am_fv G S k i t := by
  unfold am_fv
  rw [h1, h2, h3]
theorem Go.putI {ix k tag j : Nat} {fin : Bool} {v : Int32} (pc' : Nat) (hp : pc + 3 = pc') (hd : decode M.1 pc = .ok (.putfield ix, 3)) (hf : aFp M.2.2.2.1 ix tag j .int fin) (hj : (ftys tag)[j]? = some 0) (hk : k < n) (ht : (SH k).1 = tag) (hfin : fin = true → M.2.2.2.2 = "<init>") (kk : Go G l R Tm M n cells slots pc' lv st (stI S k j v)) : Go G l R Tm M n cells slots pc lv (.int v :: .ref k :: st) S := by
  refine Go.putV (v := .int v) pc' (stI S k j v) hp hd hf hj hk ht rfl rfl hfin ?_ (fun i t hij => am_fv_ne ?_ rfl rfl) (fun a ha => am_cE_congr (stI_ne ha) rfl rfl) kk
  · show Value.int ((stI S k j v).1 k j) = Value.int v
    rw [stI_self]
    simp [upd]
  · rw [stI_self]
    simp [upd, hij]
theorem Go.putL {ix k tag j : Nat} {fin : Bool} {v : Int64} (pc' : Nat) (hp : pc + 3 = pc') (hd : decode M.1 pc = .ok (.putfield ix, 3)) (hf : aFp M.2.2.2.1 ix tag j .long fin) (hj : (ftys tag)[j]? = some 1) (hk : k < n) (ht : (SH k).1 = tag) (hfin : fin = true → M.2.2.2.2 = "<init>") (kk : Go G l R Tm M n cells slots pc' lv st (stL S k j v)) : Go G l R Tm M n cells slots pc lv (.long v :: .ref k :: st) S := by
  refine Go.putV (v := .long v) pc' (stL S k j v) hp hd hf hj hk ht rfl rfl hfin ?_ (fun i t hij => am_fv_ne rfl ?_ rfl) (fun a ha => am_cE_congr rfl (by simp [stL, ha]) rfl) kk
  · show Value.long ((stL S k j v).2.1 k j) = Value.long v
    simp [stL, vp_updL]
  · simp [stL, vp_updL, hij]
theorem Go.putR {ix k tag j v : Nat} {ty : FieldType} {fin : Bool} (pc' : Nat) (hp : pc + 3 = pc') (hd : decode M.1 pc = .ok (.putfield ix, 3)) (hf : aFp M.2.2.2.1 ix tag j ty fin) (hty : (∃ q, ty = .object q) ∨ ∃ q, ty = .array q) (hj : (ftys tag)[j]? = some 2) (hk : k < n) (ht : (SH k).1 = tag) (hfin : fin = true → M.2.2.2.2 = "<init>") (kk : Go G l R Tm M n cells slots pc' lv st (stR S k j (some v))) : Go G l R Tm M n cells slots pc lv (.ref v :: .ref k :: st) S := by
  refine Go.putV (v := .ref v) pc' (stR S k j (some v)) hp hd hf hj hk ht ?_ ?_ hfin ?_ (fun i t hij => am_fv_ne rfl rfl ?_) (fun a ha => am_cE_congr rfl rfl (by simp [stR, ha])) kk
  · rcases hty with ⟨q, rfl⟩ | ⟨q, rfl⟩ <;> rfl
  · rcases hty with ⟨q, rfl⟩ | ⟨q, rfl⟩ <;> rfl
  · show va_rf (((stR S k j (some v)).2.2 k j).map (qa G)) = Value.ref (qa G v)
    simp [stR, va_up, va_rf]
  · simp [stR, va_up, hij]
/-! arrays -/
theorem Go.iald {k : Nat} {i : Int32} (pc' : Nat) (hp : pc + 1 = pc') (hd : decode M.1 pc = .ok (.iaload, 1)) (hk : k < n) (ht : (SH k).1 = 7) (hin : inb i (SH k).2 = true) (kk : Go G l R Tm M n cells slots pc' lv (.int (S.1 k i.toNatClampNeg) :: st) S) : Go G l R Tm M n cells slots pc lv (.int i :: .ref k :: st) S := by
  subst hp
  intro p e s m args below meth c H locs ls C hn hS hW hl
  have hq : qa G k = gB G + k := qa_own (by have := hW.1; omega)
  show W p l e R s m args below meth c H locs cells slots (Tm below args s) (F0 m pc ls (.int i :: .ref (qa G k) :: st.map (cV G)))
  rw [hq]
  exact va_iald C.1 C.2.1 C.2.2.2.2.2.2.2.2.1.1 hW.2.1 k 0 (by rw [aws_get hk, am_cE_int ht]) rfl (inb_in hin) hd (kk p e s m args below meth c H locs ls C hn hS hW hl)
theorem Go.zald {k : Nat} {i : Int32} (pc' : Nat) (hp : pc + 1 = pc') (hd : decode M.1 pc = .ok (.baload, 1)) (hk : k < n) (ht : (SH k).1 = 8) (hin : inb i (SH k).2 = true) (kk : Go G l R Tm M n cells slots pc' lv (.int (S.1 k i.toNatClampNeg) :: st) S) : Go G l R Tm M n cells slots pc lv (.int i :: .ref k :: st) S := by
  subst hp
  intro p e s m args below meth c H locs ls C hn hS hW hl
  have hq : qa G k = gB G + k := qa_own (by have := hW.1; omega)
  show W p l e R s m args below meth c H locs cells slots (Tm below args s) (F0 m pc ls (.int i :: .ref (qa G k) :: st.map (cV G)))
  rw [hq]
  exact va_zald C.1 C.2.1 C.2.2.2.2.2.2.2.2.1.1 hW.2.1 k 1 (by rw [aws_get hk, am_cE_bool ht]) rfl (inb_in hin) hd (kk p e s m args below meth c H locs ls C hn hS hW hl)
theorem Go.aaldR {k k' : Nat} {i : Int32} (pc' : Nat) (hp : pc + 1 = pc') (hd : decode M.1 pc = .ok (.aaload, 1)) (hk : k < n) (ht : (SH k).1 = 9) (hin : inb i (SH k).2 = true) (hr : S.2.2 k i.toNatClampNeg = some k') (kk : Go G l R Tm M n cells slots pc' lv (.ref k' :: st) S) : Go G l R Tm M n cells slots pc lv (.int i :: .ref k :: st) S := by
  subst hp
  intro p e s m args below meth c H locs ls C hn hS hW hl
  have hq : qa G k = gB G + k := qa_own (by have := hW.1; omega)
  show W p l e R s m args below meth c H locs cells slots (Tm below args s) (F0 m pc ls (.int i :: .ref (qa G k) :: st.map (cV G)))
  rw [hq]
  refine va_aldq C.1 C.2.1 C.2.2.2.2.2.2.2.2.1.1 hW.2.1 k 2 (by rw [aws_get hk, am_cE_rows ht]) rfl (inb_in hin) hd ?_
  rw [hr]
  exact kk p e s m args below meth c H locs ls C hn hS hW hl
theorem Go.aaldS {k k' : Nat} {i : Int32} (pc' : Nat) (hp : pc + 1 = pc') (hd : decode M.1 pc = .ok (.aaload, 1)) (hk : k < n) (ht : (SH k).1 = 10) (hin : inb i (SH k).2 = true) (hr : S.2.2 k i.toNatClampNeg = some k') (kk : Go G l R Tm M n cells slots pc' lv (.ref k' :: st) S) : Go G l R Tm M n cells slots pc lv (.int i :: .ref k :: st) S := by
  subst hp
  intro p e s m args below meth c H locs ls C hn hS hW hl
  have hq : qa G k = gB G + k := qa_own (by have := hW.1; omega)
  show W p l e R s m args below meth c H locs cells slots (Tm below args s) (F0 m pc ls (.int i :: .ref (qa G k) :: st.map (cV G)))
  rw [hq]
  refine va_aldq C.1 C.2.1 C.2.2.2.2.2.2.2.2.1.1 hW.2.1 k 3 (by rw [aws_get hk, am_cE_std ht]) rfl (inb_in hin) hd ?_
  rw [hr]
  exact kk p e s m args below meth c H locs ls C hn hS hW hl
theorem Go.iast {k : Nat} {i x : Int32} (pc' : Nat) (hp : pc + 1 = pc') (hd : decode M.1 pc = .ok (.iastore, 1)) (hk : k < n) (ht : (SH k).1 = 7) (hin : inb i (SH k).2 = true) (kk : Go G l R Tm M n cells slots pc' lv st (stI S k i.toNatClampNeg x)) : Go G l R Tm M n cells slots pc lv (.int x :: .int i :: .ref k :: st) S := by
  subst hp
  intro p e s m args below meth c H locs ls C hn hS hW hl
  have hq : qa G k = gB G + k := qa_own (by have := hW.1; omega)
  show W p l e R s m args below meth c H locs cells slots (Tm below args s) (F0 m pc ls (.int x :: .int i :: .ref (qa G k) :: st.map (cV G)))
  rw [hq]
  refine va_iast C.1 C.2.1 C.2.2.2.2.2.2.2.2.1.1 hW.2.1 (aws_D G n S) hS k 0 (by rw [aws_get hk, am_cE_int ht]) rfl (inb_in hin) hd (fun H1 locs1 hP1 _ hS1 => ?_)
  rw [aws_set (S := S) (S' := stI S k i.toNatClampNeg x) (by rw [am_cE_int ht, stI_self]) (fun a ha => am_cE_congr (stI_ne ha) rfl rfl)] at hP1
  exact kk p e s m args below meth c H1 locs1 ls C hn hS1 ⟨hW.1, hP1, am_old C.2.2.2.2.2.2.2.2.2 hS1⟩ hl
theorem Go.zast {k : Nat} {i x : Int32} (pc' : Nat) (hp : pc + 1 = pc') (hd : decode M.1 pc = .ok (.bastore, 1)) (hk : k < n) (ht : (SH k).1 = 8) (hin : inb i (SH k).2 = true) (kk : Go G l R Tm M n cells slots pc' lv st (stI S k i.toNatClampNeg (vp_nar .boolean x))) : Go G l R Tm M n cells slots pc lv (.int x :: .int i :: .ref k :: st) S := by
  subst hp
  intro p e s m args below meth c H locs ls C hn hS hW hl
  have hq : qa G k = gB G + k := qa_own (by have := hW.1; omega)
  show W p l e R s m args below meth c H locs cells slots (Tm below args s) (F0 m pc ls (.int x :: .int i :: .ref (qa G k) :: st.map (cV G)))
  rw [hq]
  refine va_zast C.1 C.2.1 C.2.2.2.2.2.2.2.2.1.1 hW.2.1 (aws_D G n S) hS k 1 (by rw [aws_get hk, am_cE_bool ht]) rfl (inb_in hin) hd (fun H1 locs1 hP1 _ hS1 => ?_)
  rw [aws_set (S := S) (S' := stI S k i.toNatClampNeg (vp_nar .boolean x)) (by rw [am_cE_bool ht, stI_self]) (fun a ha => am_cE_congr (stI_ne ha) rfl rfl)] at hP1
  exact kk p e s m args below meth c H1 locs1 ls C hn hS1 ⟨hW.1, hP1, am_old C.2.2.2.2.2.2.2.2.2 hS1⟩ hl
theorem Go.alenI {k : Nat} (pc' : Nat) (hp : pc + 1 = pc') (hd : decode M.1 pc = .ok (.arraylength, 1)) (hk : k < n) (ht : (SH k).1 = 7) (kk : Go G l R Tm M n cells slots pc' lv (.int (Int32.ofNat (SH k).2) :: st) S) : Go G l R Tm M n cells slots pc lv (.ref k :: st) S := by
  subst hp
  intro p e s m args below meth c H locs ls C hn hS hW hl
  have hq : qa G k = gB G + k := qa_own (by have := hW.1; omega)
  show W p l e R s m args below meth c H locs cells slots (Tm below args s) (F0 m pc ls (.ref (qa G k) :: st.map (cV G)))
  rw [hq]
  exact va_alen (x := ((SH k).2, .inl (S.1 k))) C.1 C.2.1 C.2.2.2.2.2.2.2.2.1.1 hW.2.1 k 0 (by rw [aws_get hk, am_cE_int ht]) rfl rfl hd (kk p e s m args below meth c H locs ls C hn hS hW hl)
theorem Go.alenR {k : Nat} (pc' : Nat) (hp : pc + 1 = pc') (hd : decode M.1 pc = .ok (.arraylength, 1)) (hk : k < n) (ht : (SH k).1 = 9) (kk : Go G l R Tm M n cells slots pc' lv (.int (Int32.ofNat (SH k).2) :: st) S) : Go G l R Tm M n cells slots pc lv (.ref k :: st) S := by
  subst hp
  intro p e s m args below meth c H locs ls C hn hS hW hl
  have hq : qa G k = gB G + k := qa_own (by have := hW.1; omega)
  show W p l e R s m args below meth c H locs cells slots (Tm below args s) (F0 m pc ls (.ref (qa G k) :: st.map (cV G)))
  rw [hq]
  exact va_alen (x := ((SH k).2, .inr (.inr (.inr (.inr (fun i => (S.2.2 k i).map (qa G))))))) C.1 C.2.1 C.2.2.2.2.2.2.2.2.1.1 hW.2.1 k 2 (by rw [aws_get hk, am_cE_rows ht]) rfl rfl hd (kk p e s m args below meth c H locs ls C hn hS hW hl)
def cpok (sp dp c : Int32) (n0 n1 : Nat) : Bool := !decide (sp < 0) && !decide (dp < 0) && !decide (c < 0) && decide (sp.toNatClampNeg + c.toNatClampNeg ≤ n0) && decide (dp.toNatClampNeg + c.toNatClampNeg ≤ n1)
theorem Go.acpy {k0 k1 ix : Nat} {sp dp c0 : Int32} (pc' : Nat) (hp : pc + 3 = pc') (hd : decode M.1 pc = .ok (.invokestatic ix, 3)) (hlk : Cond.methodLink M.2.2.2.1 ix arraycopyName ∈ lw_g) (hnat : Cond.native arraycopyName ∈ lw_g) (hstt : Cond.static arraycopyName ∈ lw_g) (hini : Cond.initialized "java/lang/System" ∈ lw_g) (hk0 : k0 < n) (ht0 : (SH k0).1 = 7) (hk1 : k1 < n) (ht1 : (SH k1).1 = 7) (hin : cpok sp dp c0 (SH k0).2 (SH k1).2 = true) (hfr : 1 ≤ R.frames) (hlo : (st.map fun v => v.category).sum + (nativeFrameWords "java/lang/System" "arraycopy" 5 + 11) ≤ R.locals) (kk : Go G l R Tm M n cells slots pc' lv st (stRow S k1 (va_cpy (S.1 k0) (S.1 k1) sp.toNatClampNeg dp.toNatClampNeg c0.toNatClampNeg))) : Go G l R Tm M n cells slots pc lv (.int c0 :: .int dp :: .ref k1 :: .int sp :: .ref k0 :: st) S := by
  subst hp
  intro p e s m args below meth c H locs ls C hn hS hW hl
  have hq : qa G k0 = gB G + k0 := qa_own (by have := hW.1; omega)
  have hq1 : qa G k1 = gB G + k1 := qa_own (by have := hW.1; omega)
  simp [cpok] at hin
  obtain ⟨⟨⟨⟨i1, i2⟩, i3⟩, i4⟩, i5⟩ := hin
  have hcat : ((st.map (cV G)).map fun v => v.category).sum = (st.map fun v => v.category).sum := by
    rw [List.map_map]
    congr 1
    apply List.map_congr_left
    intro v _
    exact cV_cat G v
  show W p l e R s m args below meth c H locs cells slots (Tm below args s) (F0 m pc ls (.int c0 :: .int dp :: .ref (qa G k1) :: .int sp :: .ref (qa G k0) :: st.map (cV G)))
  rw [hq, hq1]
  refine va_copyi C.1 C.2.1 (C.2.2.1.trans hl.1.symm) C.2.2.2.2.1 (C.2.2.2.2.2.2.2.1 _ hlk) (C.2.2.2.2.2.2.2.1 _ hnat) (C.2.2.2.2.2.2.2.1 _ hstt) (C.2.2.2.2.2.2.2.1 _ hini) C.2.2.2.2.2.2.2.2.1.1 hW.2.1 (aws_D G n S) hS k0 k1 0 0 (ty := .int) (by rw [aws_get hk0, am_cE_int ht0]) (by rw [aws_get hk1, am_cE_int ht1]) rfl rfl rfl (by simpa using i1) (by simpa using i2) (by simpa using i3) i4 i5 (fun i hi => rfl) hfr (by rw [hcat]; exact hlo) hd (fun H1 locs1 hP1 _ hS1 => ?_)
  rw [aws_set (S := S) (S' := stRow S k1 (va_cpy (S.1 k0) (S.1 k1) sp.toNatClampNeg dp.toNatClampNeg c0.toNatClampNeg)) (by rw [am_cE_int ht1]; simp [stRow]) (fun a ha => am_cE_congr (by simp [stRow, ha]) rfl rfl)] at hP1
  exact kk p e s m args below meth c H1 locs1 ls C hn hS1 ⟨hW.1, hP1, am_old C.2.2.2.2.2.2.2.2.2 hS1⟩ hl
/-! the letters -/
theorem Go.gets {ix : Nat} (pc' : Nat) (hp : pc + 3 = pc') (hd : decode M.1 pc = .ok (.getstatic ix, 3)) (hlk : Cond.fieldLink M.2.2.2.1 ix "LostQuestions$Kinds" "LETTERS" "[I" ∈ lw_g) (kk : Go G l R Tm M n cells slots pc' lv (.ref 1001 :: st) S) : Go G l R Tm M n cells slots pc lv st S := by
  subst hp
  intro p e s m args below meth c H locs ls C hn hS hW hl
  have hZ := (C.2.2.2.2.2.2.2.2.1.2.2.2.2.2.1).kept (H1 := s.heap) (fun a ha _ => C.2.2.2.2.2.2.2.2.2 a ha)
  exact va_gets C.1 C.2.1 hZ hS C.2.2.2.2.1 (C.2.2.2.2.2.2.2.1 _ hlk) (fun _ h9 => h9) hd (kk p e s m args below meth c H locs ls C hn hS hW hl)
theorem Go.ildT {i : Int32} (pc' : Nat) (hp : pc + 1 = pc') (hd : decode M.1 pc = .ok (.iaload, 1)) (hin : inb i 6 = true) (kk : Go G l R Tm M n cells slots pc' lv (.int (am_let i.toNatClampNeg) :: st) S) : Go G l R Tm M n cells slots pc lv (.int i :: .ref 1001 :: st) S := by
  subst hp
  intro p e s m args below meth c H locs ls C hn hS hW hl
  have hT := (C.2.2.2.2.2.2.2.2.1.2.2.2.2.2.2).kept (H1 := s.heap) (fun a ha _ => C.2.2.2.2.2.2.2.2.2 a ha)
  exact va_ti C.1 C.2.1 hT hS (inb_in hin) rfl hd (kk p e s m args below meth c H locs ls C hn hS hW hl)
end GH
end
section
/-! Contracts over the abstract machine; returns; calls. -/
def aQ (G : aG) (r : Option Value) (n' : Nat) (S' : aSt) : Array Value → State → Outcome → State → Prop := fun _ _ o t => o = .returned (r.map (cV G)) ∧ aW G n' S' t.heap
def TmR (G : aG) (r : Option Value) (n' : Nat) (S' : aSt) (mc ms : Nat) : List Frame → Array Value → State → State → Prop := fun below args s => MQ below (aQ G r n' S') args s mc ms (gA G)
def aPc (G : aG) (n : Nat) (S : aSt) (As : List Value) : Array Value → State → Prop := va_Pc (As.map (cV G)) (fun U => U.heap.size = gB G + n ∧ aK G U ∧ aW G n S U.heap)
def Ctr (G : aG) (l : Launch) (y : MethodName) (M : aM) (rm : Room) (n n' : Nat) (S : aSt) (As : List Value) (r : Option Value) (S' : aSt) : Prop :=
  Met l y (.code y M.1 M.2.1 M.2.2.1 :: lw_g) rm (aPc G n S As) (aQ G r n' S') rm.cells rm.slots (gA G)
theorem lg_sl_len (G : aG) (As : List Value) : (lg_sl (As.map (cV G))).length = (lg_sl As).length := by
  induction As with
  | nil => rfl
  | cons v vs ih =>
    simp only [lg_sl, List.map_cons, List.flatMap_cons, List.length_append] at ih ⊢
    rw [ih]
    congr 1
    cases v <;> rfl
theorem lv_args_map (G : aG) : ∀ (As : List Value) (i : Nat), lv_args i (As.map (cV G)) = (lv_args i As).map (cL G)
  | [], _ => rfl
  | v :: vs, i => by
    simp only [List.map_cons, lv_args, cV_cat]
    rw [lv_args_map G vs]
    rfl
theorem Ctr.of {G : aG} {l : Launch} {y : MethodName} {M : aM} {rm : Room} {n n' : Nat} {S S' : aSt} {As : List Value} {r : Option Value} (hy : plainName y.cls = true) (hc : M.2.2.2.1 = y.cls) (hm : M.2.2.2.2 = y.name) (hl : (lg_sl As).length ≤ M.2.1) (lv : List (Nat × Value)) (hlv : lv_args 0 As = lv)
    (k : Go G l rm (TmR G r n' S' rm.cells rm.slots) M n 0 0 0 lv [] S) : Ctr G l y M rm n n' S As r S' := by
  subst hlv
  refine Met.ofW (cc := M.1) (maxL := M.2.1) (ret := M.2.2.1) hy rfl ?_
  intro p e s m args below meth c s₁ B hml hv
  obtain ⟨rfl, hsz, hK, hW⟩ := hv
  have hts := atoms_spec (ws := .code y M.1 M.2.1 M.2.2.1 :: lw_g) B.pre
  have hl' := lv_entry (As.map (cV G)) (n := M.2.1) (by rw [lg_sl_len]; exact hl)
  rw [lv_args_map] at hl'
  rw [lg_entry_eq]
  exact k p e s m _ below meth c s.heap [] _ ⟨B.exec, B.bytes, hml, B.returns, by rw [hc]; exact findClass_of_methodNamed B.named, by rw [hm]; exact (name_of_methodNamed B.named B.method).1, B.notSynchronized, fun w hw => hts w (List.mem_cons_of_mem _ hw), hK, hW.2.2⟩ (by rw [hsz]; rfl) va_S.rf hW hl'
theorem aPc_blind (G : aG) (n : Nat) (S : aSt) (As : List Value) : FrameBlind (aPc G n S As) := by
  intro a U g mk q
  obtain ⟨h1, h2, h3, h4⟩ := q
  exact ⟨h1, h2, h3.moved (State.WarmedH.refl U), h4⟩
section GC
variable {G : aG} {l : Launch} {R : Room} {Tm : List Frame → Array Value → State → State → Prop} {M : aM} {n cells slots pc : Nat} {lv : List (Nat × Value)} {st : List Value} {S : aSt}
theorem Go.iret {x : Int32} (hr : M.2.2.1 = some .int) (hd : decode M.1 pc = .ok (.ireturn, 1)) : Go G l R (TmR G (some (.int x)) n S cells slots) M n cells slots pc lv [.int x] S := by
  intro p e s m args below meth c H locs ls C hn hS hW hl
  exact W.iret C.1 C.2.1 (C.2.2.2.1.trans hr) (fun t ht _ => ⟨rfl, by rw [ht]; exact hW⟩) hS.2.2 hd C.2.2.2.2.2.2.1
theorem Go.zret {x : Int32} (hr : M.2.2.1 = some .boolean) (hx : x = 0 ∨ x = 1) (hd : decode M.1 pc = .ok (.ireturn, 1)) : Go G l R (TmR G (some (.int x)) n S cells slots) M n cells slots pc lv [.int x] S := by
  intro p e s m args below meth c H locs ls C hn hS hW hl
  exact W.zret C.1 C.2.1 (C.2.2.2.1.trans hr) (by rcases hx with rfl | rfl <;> rfl) (fun t ht _ => ⟨rfl, by rw [ht]; exact hW⟩) hS.2.2 hd C.2.2.2.2.2.2.1
theorem Go.lret {x : Int64} (hr : M.2.2.1 = some .long) (hd : decode M.1 pc = .ok (.lreturn, 1)) : Go G l R (TmR G (some (.long x)) n S cells slots) M n cells slots pc lv [.long x] S := by
  intro p e s m args below meth c H locs ls C hn hS hW hl
  exact W.lret C.1 C.2.1 (C.2.2.2.1.trans hr) (fun t ht _ => ⟨rfl, by rw [ht]; exact hW⟩) hS.2.2 hd C.2.2.2.2.2.2.1
theorem Go.vret (hr : M.2.2.1 = none) (hd : decode M.1 pc = .ok (.return_, 1)) : Go G l R (TmR G none n S cells slots) M n cells slots pc lv [] S := by
  intro p e s m args below meth c H locs ls C hn hS hW hl
  exact W.vret C.1 C.2.1 (C.2.2.2.1.trans hr) (fun t ht _ => ⟨rfl, by rw [ht]; exact hW⟩) hS.2.2 hd C.2.2.2.2.2.2.1
theorem am_cat (G : aG) (st : List Value) : ((st.map (cV G)).map fun v => v.category).sum = (st.map fun v => v.category).sum := by
  rw [List.map_map]
  congr 1
  apply List.map_congr_left
  intro v _
  exact cV_cat G v
theorem aW_size {G : aG} {n cells : Nat} {S : aSt} {s : State} {H : Heap} {locs : List Loc} (hn : s.heap.size + cells = gB G + n) (hS : va_S (gA G) s.heap H locs) (hW : aW G n S H) (hb : ∀ a, a < gB G → s.heap[a]? = G.1[a]?) (h : H.size ≤ s.heap.size + cells) : H.size = gB G + n := by
  cases n with
  | zero =>
    have h1 : gB G ≤ H.size := by
      rcases Nat.lt_or_ge H.size (gB G) with q | q
      · have h2 := am_old hb hS H.size q
        rw [show G.1[H.size]? = some (G.1[H.size]'q) from Array.getElem?_eq_getElem q] at h2
        exact absurd (Array.getElem?_eq_some_iff.mp h2).1 (Nat.lt_irrefl _)
      · exact q
    omega
  | succ k =>
    have h1 := (hW.2.1 k _ (aws_get (Nat.lt_succ_self k))).lt
    dsimp only at h1
    omega
/-- what a call does, once the kit has run it -/
theorem Go.run {rm : Room} {n' : Nat} {r : Option Value} {S' : aSt} {As st0 : List Value} {pc' : Nat} (hp : pc + 3 = pc') (hn' : n' = n + rm.cells)
    (hr : ∀ (p : Program) (e : Env) (s : State) (m : MethodId) (args : Array Value) (below : List Frame) (meth : Method) (c : Code) (H : Heap) (locs : List Loc) (ls : Array Slot), aC G M p s m args meth c → s.heap.size + cells = gB G + n → va_S (gA G) s.heap H locs → aW G n S H → lv_has ls M.2.1 (lv.map (cL G)) → (∀ U : State, U.heap = H → s.WarmedH U.vm → H.size ≤ s.heap.size + cells → aPc G n S As (As.map (cV G)).toArray U) → H.size ≤ s.heap.size + cells →
      va_Run p l e R s m args below meth c H locs cells slots rm.cells rm.slots (F0 m pc ls (st0.map (cV G))) (st.map (cV G)) (aQ G r n' S' (As.map (cV G)).toArray) (gA G))
    (kk : Go G l R Tm M n' (cells + rm.cells) (slots + rm.slots) pc' lv (r.toList ++ st) S') : Go G l R Tm M n cells slots pc lv st0 S := by
  subst hp
  intro p e s m args below meth c H locs ls C hn hS hW hl
  refine w_size (fun hz => ?_)
  have hsz := aW_size hn hS hW C.2.2.2.2.2.2.2.2.2 hz
  have hrun := hr p e s m args below meth c H locs ls C hn hS hW hl (fun U hU hWm _ => ⟨rfl, by rw [hU]; exact hsz, C.2.2.2.2.2.2.2.2.1.moved hWm, by rw [hU]; exact hW⟩) hz
  intro T hT X
  obtain ⟨v, st₀, t, T', L, h0, X', hL, e1, e2, ⟨hv, hq⟩, stp⟩ := hrun T hT X
  have hv' : v = r.map (cV G) := by
    injection hv
  subst hv'
  rw [← e1] at hq
  have hsz' : H.size ≤ T'.heap.size := by
    subst hn'
    cases hc : n + rm.cells with
    | zero =>
      have h1 : gB G ≤ T'.heap.size := by
        rcases Nat.lt_or_ge T'.heap.size (gB G) with q | q
        · have h2 := hq.2.2 T'.heap.size q
          rw [show G.1[T'.heap.size]? = some (G.1[T'.heap.size]'q) from Array.getElem?_eq_getElem q] at h2
          exact absurd (Array.getElem?_eq_some_iff.mp h2).1 (Nat.lt_irrefl _)
        · exact q
      omega
    | succ k =>
      rw [hc] at hq
      have h1 := (hq.2.1 k _ (aws_get (Nat.lt_succ_self k))).lt
      dsimp only at h1
      omega
  obtain ⟨t2, a1, b1⟩ := kk p e s m args below meth c T'.heap (locs ++ L) ls C (by subst hn'; omega) ⟨Nat.le_trans hS.1 hsz', fun q h1 h2 => by
      rw [hq.2.2 q (by show q < gB G; exact Nat.lt_of_not_le h2), C.2.2.2.2.2.2.2.2.2 q (Nat.lt_of_not_le h2)], fun q hq' => by
      rcases List.mem_append.mp hq' with h | h
      · exact hS.2.2 q h
      · exact hL q h⟩ hq hl T' rfl X'
  refine ⟨t2, stp t2 ?_, b1⟩
  have hst : (r.toList ++ st).map (cV G) = (r.map (cV G)).toList ++ st.map (cV G) := by
    cases r <;> rfl
  rw [hst] at a1
  exact a1
theorem am_good {w : Cond} (h : w ∈ lw_g) : w ∈ lw_g ∧ ((w.onTables && w.keeps) = true ∨ ∃ ty, w = .arrayClass ty) := ⟨h, good_of_word (List.mem_filter.mp h).2⟩
theorem am_goodIn {ws : List Cond} (h : ∀ w ∈ ws, w ∈ lw_g) : GoodIn lw_g ws := fun w hw => am_good (h w hw)
/-- the words of a virtual call -/
def aCV (own : String) (ix : Nat) (y : MethodName) (tag : Nat) (M' : aM) (k : Nat) : Prop := (∃ (T : u_T) (N : Nat), vwCl[tag]? = some (y.cls, T, N)) ∧ Cond.methodLink own ix y ∈ lw_g ∧ Cond.instanceMethod y ∈ lw_g ∧ Cond.selects y.cls y y ∈ lw_g ∧ Cond.initialized y.cls ∈ lw_g ∧ Cond.code y M'.1 M'.2.1 M'.2.2.1 ∈ lw_g ∧ y.cls ≠ "java/lang/invoke/MethodHandle" ∧ y.cls ≠ "java/lang/invoke/VarHandle" ∧ (parseMethodDescriptor y.desc).map (fun d => d.parameters.length) = some k
def aCS (own : String) (ix : Nat) (y : MethodName) (M' : aM) (k : Nat) : Prop := Cond.methodLink own ix y ∈ lw_g ∧ Cond.static y ∈ lw_g ∧ Cond.initialized y.cls ∈ lw_g ∧ Cond.code y M'.1 M'.2.1 M'.2.2.1 ∈ lw_g ∧ y.cls ≠ "java/lang/invoke/MethodHandle" ∧ y.cls ≠ "java/lang/invoke/VarHandle" ∧ (parseMethodDescriptor y.desc).map (fun d => d.parameters.length) = some k
theorem Go.callV {y : MethodName} {M' : aM} {rm : Room} {ix k tag : Nat} {r : Option Value} {S' : aSt} {st0 : List Value} (pc' : Nat) (As st : List Value) (hp : pc + 3 = pc') (hd : decode M.1 pc = .ok (.invokevirtual ix, 3)) (hM : Ctr G l y M' rm n (n + rm.cells) S (.ref k :: As) r S') (hw : aCV M.2.2.2.1 ix y tag M' As.length) (hk : k < n) (ht : (SH k).1 = tag) (hR : rm.frames + 1 ≤ R.frames ∧ 8 + (M'.2.1 + 11) + rm.locals ≤ R.locals) (hc : cells + rm.cells ≤ R.cells ∧ slots + rm.slots ≤ R.slots) (hs : st0 = As.reverse ++ .ref k :: st) (hst : (st.map fun v => v.category).sum ≤ 8) (kk : Go G l R Tm M (n + rm.cells) (cells + rm.cells) (slots + rm.slots) pc' lv (r.toList ++ st) S') : Go G l R Tm M n cells slots pc lv st0 S := by
  subst hs
  refine Go.run (rm := rm) (As := .ref k :: As) (r := r) (S' := S') (st := st) hp rfl ?_ kk
  intro p e s m args below meth c H locs ls C hn hS hW hl hPc hz
  obtain ⟨⟨T, N, hcl⟩, w1, w2, w3, w4, w5, w6⟩ := hw
  have hq : qa G k = gB G + k := qa_own (by have := hW.1; omega)
  have hws : ∀ w ∈ wsV M.2.2.2.1 ix y.cls y (.code y M'.1 M'.2.1 M'.2.2.1 :: lw_g), w ∈ lw_g := by
    intro w h
    simp only [wsV, List.cons_append, List.nil_append, List.mem_cons] at h
    rcases h with rfl | rfl | rfl | rfl | rfl | h
    · exact w1
    · exact w2
    · exact w3
    · exact w4
    · exact w5
    · exact h
  have he : (aws G n S)[k]? = some (gB G + k, .inr (tag, am_fs G S k)) := by rw [aws_get hk, am_cE_obj ht (vw_lt hcl)]
  have hrec := va_recv (C.2.2.2.2.2.2.2.2.1.1) hW.2.1 hcl he
  refine va_runV (C := y.cls) (b := qa G k) (As := As.map (cV G)) (n := As.length) (Ts := lw_g) (own := M.2.2.2.1) (nL := M.2.1) (cc := M.1) ⟨C.1, C.2.1, C.2.2.1, C.2.2.2.2.1, C.2.2.2.2.2.2.2.1⟩ hM (cwV _ C.2.2.2.2.2.2.2.1 (am_goodIn hws) rfl rfl rfl ⟨rfl, w6⟩ hR) ⟨aPc_blind G n S _, by rw [hq]; exact hrec, fun U hU hWm => hPc U hU hWm hz⟩ rfl (by simp) hl.1 (by simp [List.map_reverse]; rfl) (lv_room (by rw [am_cat]; exact hst)) hd hc
theorem Go.callS {y : MethodName} {M' : aM} {rm : Room} {ix : Nat} {r : Option Value} {S' : aSt} {st0 : List Value} (pc' : Nat) (As st : List Value) (hp : pc + 3 = pc') (hd : decode M.1 pc = .ok (.invokestatic ix, 3)) (hM : Ctr G l y M' rm n (n + rm.cells) S As r S') (hw : aCS M.2.2.2.1 ix y M' As.length) (hR : rm.frames + 1 ≤ R.frames ∧ 8 + (M'.2.1 + 11) + rm.locals ≤ R.locals) (hc : cells + rm.cells ≤ R.cells ∧ slots + rm.slots ≤ R.slots) (hs : st0 = As.reverse ++ st) (hst : (st.map fun v => v.category).sum ≤ 8) (kk : Go G l R Tm M (n + rm.cells) (cells + rm.cells) (slots + rm.slots) pc' lv (r.toList ++ st) S') : Go G l R Tm M n cells slots pc lv st0 S := by
  subst hs
  refine Go.run (rm := rm) (As := As) (r := r) (S' := S') (st := st) hp rfl ?_ kk
  intro p e s m args below meth c H locs ls C hn hS hW hl hPc hz
  obtain ⟨w1, w2, w4, w5, w6⟩ := hw
  have hws : ∀ w ∈ va_wsS M.2.2.2.1 ix y (.code y M'.1 M'.2.1 M'.2.2.1 :: lw_g), w ∈ lw_g := by
    intro w h
    simp only [va_wsS, List.cons_append, List.nil_append, List.mem_cons] at h
    rcases h with rfl | rfl | rfl | rfl | h
    · exact w1
    · exact w2
    · exact w4
    · exact w5
    · exact h
  exact va_runS (As := As.map (cV G)) (n := As.length) (Ts := lw_g) (own := M.2.2.2.1) (nL := M.2.1) (cc := M.1) ⟨C.1, C.2.1, C.2.2.1, C.2.2.2.2.1, C.2.2.2.2.2.2.2.1⟩ hM (va_cwS _ C.2.2.2.2.2.2.2.1 (am_goodIn hws) rfl rfl rfl w6 hR) ⟨aPc_blind G n S _, fun U hU hWm => hPc U hU hWm hz⟩ rfl (by simp) hl.1 (by simp [List.map_reverse]) (lv_room (by rw [am_cat]; exact hst)) hd hc
end GC
/-! the room of a method that makes nothing, D frames deep; rows with results -/
def rmM (D : Nat) : Room := { frames := D, cells := 0, slots := 0, locals := 64 * D }
theorem rmM_le {D D' L : Nat} (h : D' < D) (hL : L ≤ 45) : (rmM D').frames + 1 ≤ (rmM D).frames ∧ 8 + (L + 11) + (rmM D').locals ≤ (rmM D).locals := by
  show D' + 1 ≤ D ∧ 8 + (L + 11) + 64 * D' ≤ 64 * D
  omega
def isB (x : Int32) : Bool := decide (x = 0) || decide (x = 1)
theorem isB_or {x : Int32} (h : isB x = true) : x = 0 ∨ x = 1 := by simpa [isB] using h
def bn2 {α β γ : Type} (o : Option (α × β)) (f : α → β → Option γ) : Option γ := o.bind (fun q => f q.1 q.2)
theorem f_bn2 {α β γ : Type} {o : Option (α × β)} {f : α → β → Option γ} {r : γ} (h : bn2 o f = some r) : ∃ a b, o = some (a, b) ∧ f a b = some r := by
  cases o with
  | none => cases h
  | some q => exact ⟨q.1, q.2, rfl, h⟩
abbrev GoM (G : aG) (l : Launch) (D : Nat) (Tm : List Frame → Array Value → State → State → Prop) (M : aM) (pc : Nat) (lv : List (Nat × Value)) (st : List Value) (S : aSt) : Prop := Go G l (rmM D) Tm M 97 0 0 pc lv st S
section GM
variable {G : aG} {l : Launch} {D : Nat} {Tm : List Frame → Array Value → State → State → Prop} {M : aM} {pc : Nat} {lv : List (Nat × Value)} {st : List Value} {S : aSt}
theorem Go.ir {x r : Int32} (hr : M.2.2.1 = some .int) (hd : decode M.1 pc = .ok (.ireturn, 1)) (h : some x = some r) : GoM G l D (TmR G (some (.int r)) 97 S 0 0) M pc lv [.int x] S := by cases h; exact Go.iret hr hd
theorem Go.irS {x r : Int32} {S' : aSt} (hr : M.2.2.1 = some .int) (hd : decode M.1 pc = .ok (.ireturn, 1)) (h : some (x, S) = some (r, S')) : GoM G l D (TmR G (some (.int r)) 97 S' 0 0) M pc lv [.int x] S := by cases h; exact Go.iret hr hd
theorem Go.zr {x r : Int32} (hr : M.2.2.1 = some .boolean) (hx : x = 0 ∨ x = 1) (hd : decode M.1 pc = .ok (.ireturn, 1)) (h : some x = some r) : GoM G l D (TmR G (some (.int r)) 97 S 0 0) M pc lv [.int x] S := by cases h; exact Go.zret hr hx hd
theorem Go.zrS {x r : Int32} {S' : aSt} (hr : M.2.2.1 = some .boolean) (hx : x = 0 ∨ x = 1) (hd : decode M.1 pc = .ok (.ireturn, 1)) (h : some (x, S) = some (r, S')) : GoM G l D (TmR G (some (.int r)) 97 S' 0 0) M pc lv [.int x] S := by cases h; exact Go.zret hr hx hd
theorem Go.lr {x r : Int64} (hr : M.2.2.1 = some .long) (hd : decode M.1 pc = .ok (.lreturn, 1)) (h : some x = some r) : GoM G l D (TmR G (some (.long r)) 97 S 0 0) M pc lv [.long x] S := by cases h; exact Go.lret hr hd
theorem Go.vr {S' : aSt} (hr : M.2.2.1 = none) (hd : decode M.1 pc = .ok (.return_, 1)) (h : some S = some S') : GoM G l D (TmR G none 97 S' 0 0) M pc lv [] S := by cases h; exact Go.vret hr hd
theorem Go.cV {y : MethodName} {M' : aM} {ix k tag D' : Nat} {r : Value} {S' : aSt} {st0 : List Value} (pc' : Nat) (As st : List Value) (hM : Ctr G l y M' (rmM D') 97 97 S (.ref k :: As) (some r) S') (hp : pc + 3 = pc') (hd : decode M.1 pc = .ok (.invokevirtual ix, 3)) (hw : aCV M.2.2.2.1 ix y tag M' As.length) (hk : isT k tag = true) (hD : D' < D) (hL : M'.2.1 ≤ 45) (hs : st0 = As.reverse ++ .ref k :: st) (hst : (st.map fun v => v.category).sum ≤ 8) (kk : GoM G l D Tm M pc' lv (r :: st) S') : GoM G l D Tm M pc lv st0 S :=
  Go.callV pc' As st hp hd hM hw (isT_lt hk) (isT_sh hk) (rmM_le hD hL) ⟨Nat.le_refl 0, Nat.le_refl 0⟩ hs hst kk
theorem Go.cVv {y : MethodName} {M' : aM} {ix k tag D' : Nat} {S' : aSt} {st0 : List Value} (pc' : Nat) (As st : List Value) (hM : Ctr G l y M' (rmM D') 97 97 S (.ref k :: As) none S') (hp : pc + 3 = pc') (hd : decode M.1 pc = .ok (.invokevirtual ix, 3)) (hw : aCV M.2.2.2.1 ix y tag M' As.length) (hk : isT k tag = true) (hD : D' < D) (hL : M'.2.1 ≤ 45) (hs : st0 = As.reverse ++ .ref k :: st) (hst : (st.map fun v => v.category).sum ≤ 8) (kk : GoM G l D Tm M pc' lv st S') : GoM G l D Tm M pc lv st0 S :=
  Go.callV pc' As st hp hd hM hw (isT_lt hk) (isT_sh hk) (rmM_le hD hL) ⟨Nat.le_refl 0, Nat.le_refl 0⟩ hs hst kk
theorem Go.cS {y : MethodName} {M' : aM} {ix D' : Nat} {r : Value} {S' : aSt} {st0 : List Value} (pc' : Nat) (As st : List Value) (hM : Ctr G l y M' (rmM D') 97 97 S As (some r) S') (hp : pc + 3 = pc') (hd : decode M.1 pc = .ok (.invokestatic ix, 3)) (hw : aCS M.2.2.2.1 ix y M' As.length) (hD : D' < D) (hL : M'.2.1 ≤ 45) (hs : st0 = As.reverse ++ st) (hst : (st.map fun v => v.category).sum ≤ 8) (kk : GoM G l D Tm M pc' lv (r :: st) S') : GoM G l D Tm M pc lv st0 S :=
  Go.callS pc' As st hp hd hM hw (rmM_le hD hL) ⟨Nat.le_refl 0, Nat.le_refl 0⟩ hs hst kk
theorem Go.cSv {y : MethodName} {M' : aM} {ix D' : Nat} {S' : aSt} {st0 : List Value} (pc' : Nat) (As st : List Value) (hM : Ctr G l y M' (rmM D') 97 97 S As none S') (hp : pc + 3 = pc') (hd : decode M.1 pc = .ok (.invokestatic ix, 3)) (hw : aCS M.2.2.2.1 ix y M' As.length) (hD : D' < D) (hL : M'.2.1 ≤ 45) (hs : st0 = As.reverse ++ st) (hst : (st.map fun v => v.category).sum ≤ 8) (kk : GoM G l D Tm M pc' lv st S') : GoM G l D Tm M pc lv st0 S :=
  Go.callS pc' As st hp hd hM hw (rmM_le hD hL) ⟨Nat.le_refl 0, Nat.le_refl 0⟩ hs hst kk
theorem Go.topi {x : Int32} (y : Int32) (h : y = x) (k : GoM G l D Tm M pc lv (.int y :: st) S) : GoM G l D Tm M pc lv (.int x :: st) S := by subst h; exact k
theorem Go.topl {x : Int64} (y : Int64) (h : y = x) (k : GoM G l D Tm M pc lv (.long y :: st) S) : GoM G l D Tm M pc lv (.long x :: st) S := by subst h; exact k
theorem Go.stt (S' : aSt) (h : S' = S) (k : GoM G l D Tm M pc lv st S') : GoM G l D Tm M pc lv st S := by subst h; exact k
theorem Go.inc {i : Nat} {d : Int} {x : Int32} (j : Nat) (pc' : Nat) (c : Int32) (lv' : List (Nat × Value)) (hp : pc + 3 = pc') (hd : decode M.1 pc = .ok (.iinc i d, 3)) (hj : lv[j]? = some (i, .int x)) (hc : Int32.ofInt d = c) (hi : i < M.2.1) (hv : (i, Value.int (x + c)) :: lv.filter (fun q => !(q.1 == i) && !(q.1 + 1 == i && q.2.category == 2)) = lv') (k : GoM G l D Tm M pc' lv' st S) : GoM G l D Tm M pc lv st S := by
  subst hc
  exact Go.iinc j pc' _ lv' hp hd hj rfl hi hv k
theorem Go.incn {i : Nat} {d : Int} {x : Int32} (j : Nat) (pc' : Nat) (c y : Int32) (lv' : List (Nat × Value)) (hp : pc + 3 = pc') (hd : decode M.1 pc = .ok (.iinc i d, 3)) (hj : lv[j]? = some (i, .int x)) (hc : Int32.ofInt d = c) (hy : y = x + c) (hi : i < M.2.1) (hv : (i, Value.int y) :: lv.filter (fun q => !(q.1 == i) && !(q.1 + 1 == i && q.2.category == 2)) = lv') (k : GoM G l D Tm M pc' lv' st S) : GoM G l D Tm M pc lv st S := by
  subst hc
  subst hy
  exact Go.iinc j pc' _ lv' hp hd hj rfl hi hv k
end GM
theorem am_mem {w : Cond} (i : Nat) (h : lw_tbl[i]? = some w) (hg : goodWord w = true) : w ∈ lw_g := List.mem_filter.mpr ⟨List.mem_of_getElem? h, hg⟩
theorem am_memN {w : Cond} (i : Nat) (h : lw_tbl[i]? = some w) (hg : am_nest w = true) : w ∈ lw_n := List.mem_filter.mpr ⟨List.mem_of_getElem? h, hg⟩
theorem tsw_ne {x c : Int32} {z : Int} (h : ¬ x = c) (hz : c.toInt = z) : x.toInt ≠ z := fun e => h (Int32.toInt_inj.mp (e.trans hz.symm))
end
section
/-! Math.max, Math.min, Math.abs: the kit's rows -/
section GMath
variable {G : aG} {l : Launch} {D : Nat} {Tm : List Frame → Array Value → State → State → Prop} {M : aM} {pc : Nat} {lv : List (Nat × Value)} {st : List Value} {S : aSt}
theorem am_lo {st : List Value} (h : (st.map fun v => v.category).sum ≤ 8) : ((st.map (cV G)).map fun v => v.category).sum + 13 ≤ (rmM (D + 1)).locals := by
  rw [am_cat]
  show _ ≤ 64 * (D + 1)
  omega
theorem Go.mmax {ix : Nat} {x y : Int32} (pc' : Nat) (hp : pc + 3 = pc') (hd : decode M.1 pc = .ok (.invokestatic ix, 3)) (w1 : Cond.methodLink M.2.2.2.1 ix Lib.Math.max.name ∈ lw_g) (w2 : Cond.static Lib.Math.max.name ∈ lw_g) (w3 : Cond.initialized "java/lang/Math" ∈ lw_g) (w4 : Cond.code Lib.Math.max.name Lib.Math.max.code 2 (some .int) ∈ lw_g) (hst : (st.map fun v => v.category).sum ≤ 8) (k : GoM G l (D + 1) Tm M pc' lv (.int (if x < y then y else x) :: st) S) : GoM G l (D + 1) Tm M pc lv (.int y :: .int x :: st) S := by
  subst hp
  intro p e s m args below meth c H locs ls C hn hS hW hl
  exact va_mmax C.1 C.2.1 (C.2.2.1.trans hl.1.symm) C.2.2.2.2.1 (C.2.2.2.2.2.2.2.1 _ w1) (C.2.2.2.2.2.2.2.1 _ w2) (C.2.2.2.2.2.2.2.1 _ w3) (C.2.2.2.2.2.2.2.1 _ w4) (Nat.succ_le_succ (Nat.zero_le D)) (am_lo hst) (Nat.le_refl 0) (Nat.le_refl 0) hd (k p e s m args below meth c H locs ls C hn hS hW hl)
theorem Go.mmin {ix : Nat} {x y : Int32} (pc' : Nat) (hp : pc + 3 = pc') (hd : decode M.1 pc = .ok (.invokestatic ix, 3)) (w1 : Cond.methodLink M.2.2.2.1 ix Lib.Math.min.name ∈ lw_g) (w2 : Cond.static Lib.Math.min.name ∈ lw_g) (w3 : Cond.initialized "java/lang/Math" ∈ lw_g) (w4 : Cond.code Lib.Math.min.name Lib.Math.min.code 2 (some .int) ∈ lw_g) (hst : (st.map fun v => v.category).sum ≤ 8) (k : GoM G l (D + 1) Tm M pc' lv (.int (if y < x then y else x) :: st) S) : GoM G l (D + 1) Tm M pc lv (.int y :: .int x :: st) S := by
  subst hp
  intro p e s m args below meth c H locs ls C hn hS hW hl
  exact va_mmin C.1 C.2.1 (C.2.2.1.trans hl.1.symm) C.2.2.2.2.1 (C.2.2.2.2.2.2.2.1 _ w1) (C.2.2.2.2.2.2.2.1 _ w2) (C.2.2.2.2.2.2.2.1 _ w3) (C.2.2.2.2.2.2.2.1 _ w4) (Nat.succ_le_succ (Nat.zero_le D)) (am_lo hst) (Nat.le_refl 0) (Nat.le_refl 0) hd (k p e s m args below meth c H locs ls C hn hS hW hl)
theorem Go.mabs {ix : Nat} {x : Int32} (pc' : Nat) (hp : pc + 3 = pc') (hd : decode M.1 pc = .ok (.invokestatic ix, 3)) (w1 : Cond.methodLink M.2.2.2.1 ix Lib.Math.abs.name ∈ lw_g) (w2 : Cond.static Lib.Math.abs.name ∈ lw_g) (w3 : Cond.initialized "java/lang/Math" ∈ lw_g) (w4 : Cond.code Lib.Math.abs.name Lib.Math.abs.code 1 (some .int) ∈ lw_g) (hst : (st.map fun v => v.category).sum ≤ 8) (k : GoM G l (D + 1) Tm M pc' lv (.int (if 0 ≤ x then x else 0 - x) :: st) S) : GoM G l (D + 1) Tm M pc lv (.int x :: st) S := by
  subst hp
  intro p e s m args below meth c H locs ls C hn hS hW hl
  exact va_mabs C.1 C.2.1 (C.2.2.1.trans hl.1.symm) C.2.2.2.2.1 (C.2.2.2.2.2.2.2.1 _ w1) (C.2.2.2.2.2.2.2.1 _ w2) (C.2.2.2.2.2.2.2.1 _ w3) (C.2.2.2.2.2.2.2.1 _ w4) (Nat.succ_le_succ (Nat.zero_le D)) (am_lo hst) (Nat.le_refl 0) (Nat.le_refl 0) hd (k p e s m args below meth c H locs ls C hn hS hW hl)
end GMath
end
section
/-! Facts that the rows use: methods, words, constants (written by program). -/
theorem inX1g : ∀ w ∈ wsX10, w ∈ lw_g := by decide +kernel
theorem inX2g : ∀ w ∈ wsX20, w ∈ lw_g := by decide +kernel
theorem inX3g : ∀ w ∈ wsX30, w ∈ lw_g := by decide +kernel
theorem inX4g : ∀ w ∈ wsX40, w ∈ lw_g := by decide +kernel
theorem inX5g : ∀ w ∈ wsX50, w ∈ lw_g := by decide +kernel
theorem inX6g : ∀ w ∈ wsX60, w ∈ lw_g := by decide +kernel
theorem inX7g : ∀ w ∈ wsX70, w ∈ lw_g := by decide +kernel
abbrev mX0_ofLetter : aM := (cX0_ofLetter, 2, some .int, RX0, "ofLetter")
abbrev mX0_isA : aM := (cX0_isA, 2, some .boolean, RX0, "isA")
abbrev mX0_meaning : aM := (cX0_meaning, 3, some .int, RX0, "meaning")
abbrev mX1_init : aM := (cX1_init, 1, none, RX1, "<init>")
abbrev mX1_readFrom : aM := (cX1_readFrom, 6, some .int, RX1, "readFrom")
abbrev mX1_pastBlanks : aM := (cX1_pastBlanks, 3, some .int, RX1, "pastBlanks")
abbrev mX1_readCard : aM := (cX1_readCard, 4, some .int, RX1, "readCard")
abbrev mX1_readQuestion : aM := (cX1_readQuestion, 3, some .int, RX1, "readQuestion")
abbrev mX1_figure : aM := (cX1_figure, 5, some .int, RX1, "figure")
abbrev mX1_isCard : aM := (cX1_isCard, 2, some .boolean, RX1, "isCard")
abbrev mX1_isQuestion : aM := (cX1_isQuestion, 2, some .boolean, RX1, "isQuestion")
abbrev mX1_allCards : aM := (cX1_allCards, 1, some .int, RX1, "allCards")
abbrev mX1_isFreeCard : aM := (cX1_isFreeCard, 2, some .boolean, RX1, "isFreeCard")
abbrev mX1_isFreeQuestion : aM := (cX1_isFreeQuestion, 2, some .boolean, RX1, "isFreeQuestion")
abbrev mX1_freeCards : aM := (cX1_freeCards, 3, some .int, RX1, "freeCards")
abbrev mX1_answered : aM := (cX1_answered, 3, some .int, RX1, "answered")
abbrev mX1_meaningOf : aM := (cX1_meaningOf, 2, some .int, RX1, "meaningOf")
abbrev mX1_isFitting : aM := (cX1_isFitting, 4, some .boolean, RX1, "isFitting")
abbrev mX1_fittingCards : aM := (cX1_fittingCards, 4, some .int, RX1, "fittingCards")
abbrev mX1_trueCards : aM := (cX1_trueCards, 5, some .int, RX1, "trueCards")
abbrev mX1_questionsFitted : aM := (cX1_questionsFitted, 4, some .int, RX1, "questionsFitted")
abbrev mX1_verdict : aM := (cX1_verdict, 2, some .int, RX1, "verdict")
abbrev mX1_answeredWith : aM := (cX1_answeredWith, 4, some .int, RX1, "answeredWith")
abbrev mX1_waysOfTruth : aM := (cX1_waysOfTruth, 3, some .int, RX1, "waysOfTruth")
abbrev mX1_cardFact : aM := (cX1_cardFact, 3, some .int, RX1, "cardFact")
abbrev mX1_questionFact : aM := (cX1_questionFact, 3, some .int, RX1, "questionFact")
abbrev mX1_markOf : aM := (cX1_markOf, 3, some .int, RX1, "markOf")
abbrev mX1_yesMeaning : aM := (cX1_yesMeaning, 4, some .int, RX1, "yesMeaning")
abbrev mX1_cardsOn : aM := (cX1_cardsOn, 4, some .int, RX1, "cardsOn")
abbrev mX1_placesSaying : aM := (cX1_placesSaying, 4, some .int, RX1, "placesSaying")
abbrev mX1_placesAmong : aM := (cX1_placesAmong, 3, some .int, RX1, "placesAmong")
abbrev mX1_pairsWith : aM := (cX1_pairsWith, 5, some .int, RX1, "pairsWith")
abbrev mX1_firstAlike : aM := (cX1_firstAlike, 6, some .int, RX1, "firstAlike")
abbrev mX1_cardsOfOn : aM := (cX1_cardsOfOn, 5, some .int, RX1, "cardsOfOn")
abbrev mX1_homeOf : aM := (cX1_homeOf, 6, some .int, RX1, "homeOf")
abbrev mX1_strayCards : aM := (cX1_strayCards, 3, some .int, RX1, "strayCards")
abbrev mX1_fewestMoved : aM := (cX1_fewestMoved, 3, some .int, RX1, "fewestMoved")
abbrev mX1_mostStaying : aM := (cX1_mostStaying, 7, some .int, RX1, "mostStaying")
abbrev mX1_layByAge : aM := (cX1_layByAge, 5, none, RX1, "layByAge")
abbrev mX1_cardByLot : aM := (cX1_cardByLot, 9, some .int, RX1, "cardByLot")
abbrev mX1_foldInto : aM := (cX1_foldInto, 7, some .long, RX1, "foldInto")
abbrev mX2_init : aM := (cX2_init, 1, none, RX2, "<init>")
abbrev mX2_countIn : aM := (cX2_countIn, 2, none, RX2, "countIn")
abbrev mX2_countAhead : aM := (cX2_countAhead, 5, none, RX2, "countAhead")
abbrev mX2_spreadAhead : aM := (cX2_spreadAhead, 7, none, RX2, "spreadAhead")
abbrev mX2_mostPairs : aM := (cX2_mostPairs, 3, some .int, RX2, "mostPairs")
abbrev mX2_countOn : aM := (cX2_countOn, 4, none, RX2, "countOn")
abbrev mX2_waysFrom : aM := (cX2_waysFrom, 7, some .int, RX2, "waysFrom")
abbrev mX2_countWith : aM := (cX2_countWith, 6, some .int, RX2, "countWith")
abbrev mX2_sureCard : aM := (cX2_sureCard, 3, some .int, RX2, "sureCard")
abbrev mX2_layFullest : aM := (cX2_layFullest, 5, none, RX2, "layFullest")
abbrev mX2_firstFullest : aM := (cX2_firstFullest, 5, some .int, RX2, "firstFullest")
abbrev mX2_layMostWished : aM := (cX2_layMostWished, 6, some .int, RX2, "layMostWished")
abbrev mX2_mostFrom : aM := (cX2_mostFrom, 8, some .int, RX2, "mostFrom")
abbrev mX2_firstWished : aM := (cX2_firstWished, 8, some .int, RX2, "firstWished")
abbrev mX3_init : aM := (cX3_init, 1, none, RX3, "<init>")
abbrev mX3_partBest : aM := (cX3_partBest, 4, none, RX3, "partBest")
abbrev mX3_countMeanings : aM := (cX3_countMeanings, 4, none, RX3, "countMeanings")
abbrev mX3_partFrom : aM := (cX3_partFrom, 7, none, RX3, "partFrom")
abbrev mX3_findIn : aM := (cX3_findIn, 4, none, RX3, "findIn")
abbrev mX3_fewestFor : aM := (cX3_fewestFor, 8, some .int, RX3, "fewestFor")
abbrev mX4_init : aM := (cX4_init, 2, none, RX4, "<init>")
abbrev mX4_isThere : aM := (cX4_isThere, 1, some .boolean, RX4, "isThere")
abbrev mX4_reaches : aM := (cX4_reaches, 2, some .boolean, RX4, "reaches")
abbrev mX4_holds : aM := (cX4_holds, 3, some .boolean, RX4, "holds")
abbrev mX4_begin : aM := (cX4_begin, 3, none, RX4, "begin")
abbrev mX4_layAt : aM := (cX4_layAt, 3, none, RX4, "layAt")
abbrev mX4_foldInto : aM := (cX4_foldInto, 6, some .long, RX4, "foldInto")
abbrev mX5_init : aM := (cX5_init, 1, none, RX5, "<init>")
abbrev mX5_begin : aM := (cX5_begin, 1, none, RX5, "begin")
abbrev mX5_questionOf : aM := (cX5_questionOf, 3, some .int, RX5, "questionOf")
abbrev mX5_addTaking : aM := (cX5_addTaking, 3, none, RX5, "addTaking")
abbrev mX5_goBack : aM := (cX5_goBack, 3, some .int, RX5, "goBack")
abbrev mX5_become : aM := (cX5_become, 2, none, RX5, "become")
abbrev mX6_init : aM := (cX6_init, 2, none, RX6, "<init>")
abbrev mX6_row : aM := (cX6_row, 3, some .int, RX6, "row")
abbrev mX6_lay : aM := (cX6_lay, 5, some .int, RX6, "lay")
abbrev mX6_at : aM := (cX6_at, 4, some .int, RX6, "at")
abbrev mX6_tear : aM := (cX6_tear, 2, some .int, RX6, "tear")
abbrev mX6_copy : aM := (cX6_copy, 6, some .int, RX6, "copy")
abbrev mX6_mean : aM := (cX6_mean, 6, some .int, RX6, "mean")
abbrev mX6_text : aM := (cX6_text, 3, some .int, RX6, "text")
abbrev mX6_put : aM := (cX6_put, 6, some .int, RX6, "put")
abbrev mX6_fault : aM := (cX6_fault, 2, some .int, RX6, "fault")
abbrev mX6_library : aM := (cX6_library, 4, some .int, RX6, "library")
abbrev mX6_card : aM := (cX6_card, 3, some .int, RX6, "card")
abbrev mX6_question : aM := (cX6_question, 3, some .int, RX6, "question")
abbrev mX6_mark : aM := (cX6_mark, 3, some .int, RX6, "mark")
abbrev mX6_shelve : aM := (cX6_shelve, 4, some .int, RX6, "shelve")
abbrev mX6_age : aM := (cX6_age, 4, some .int, RX6, "age")
abbrev mX6_truth : aM := (cX6_truth, 4, some .int, RX6, "truth")
abbrev mX6_fits : aM := (cX6_fits, 2, some .int, RX6, "fits")
abbrev mX6_take : aM := (cX6_take, 3, some .int, RX6, "take")
abbrev mX6_bring : aM := (cX6_bring, 3, some .int, RX6, "bring")
abbrev mX6_undo : aM := (cX6_undo, 2, some .int, RX6, "undo")
abbrev mX6_right : aM := (cX6_right, 1, some .int, RX6, "right")
abbrev mX6_keep : aM := (cX6_keep, 2, some .int, RX6, "keep")
abbrev mX6_on : aM := (cX6_on, 2, some .int, RX6, "on")
abbrev mX6_match : aM := (cX6_match, 2, some .int, RX6, "match")
abbrev mX6_wished : aM := (cX6_wished, 2, some .int, RX6, "wished")
abbrev mX6_fullest : aM := (cX6_fullest, 3, some .int, RX6, "fullest")
abbrev mX6_may : aM := (cX6_may, 4, some .int, RX6, "may")
abbrev mX6_sure : aM := (cX6_sure, 2, some .int, RX6, "sure")
abbrev mX6_test : aM := (cX6_test, 7, some .int, RX6, "test")
abbrev mX6_odds : aM := (cX6_odds, 3, some .int, RX6, "odds")
abbrev mX6_worlds : aM := (cX6_worlds, 3, some .int, RX6, "worlds")
abbrev mX6_never : aM := (cX6_never, 3, some .int, RX6, "never")
abbrev mX6_parts : aM := (cX6_parts, 1, some .int, RX6, "parts")
abbrev mX6_finds : aM := (cX6_finds, 2, some .int, RX6, "finds")
abbrev mX6_left : aM := (cX6_left, 6, some .int, RX6, "left")
abbrev mX6_forged : aM := (cX6_forged, 5, some .int, RX6, "forged")
abbrev mX6_beside : aM := (cX6_beside, 4, some .int, RX6, "beside")
abbrev mX6_habit : aM := (cX6_habit, 2, some .int, RX6, "habit")
abbrev mX6_order : aM := (cX6_order, 1, some .int, RX6, "order")
abbrev mX6_byAge : aM := (cX6_byAge, 2, some .int, RX6, "byAge")
abbrev mX6_lots : aM := (cX6_lots, 9, some .int, RX6, "lots")
abbrev mX6_asked : aM := (cX6_asked, 1, some .int, RX6, "asked")
abbrev mX6_upper : aM := (cX6_upper, 1, some .long, RX6, "upper")
abbrev mX6_lower : aM := (cX6_lower, 1, some .long, RX6, "lower")
abbrev mX6_count : aM := (cX6_count, 2, some .int, RX6, "count")
abbrev mX6_finding : aM := (cX6_finding, 1, some .int, RX6, "finding")
abbrev mX6_findings : aM := (cX6_findings, 2, some .int, RX6, "findings")
abbrev mX6_digest : aM := (cX6_digest, 4, some .long, RX6, "digest")
abbrev mX6_found : aM := (cX6_found, 2, some .int, RX6, "found")
abbrev mX6_tellChances : aM := (cX6_tellChances, 7, none, RX6, "tellChances")
abbrev mX6_keptThere : aM := (cX6_keptThere, 3, some .int, RX6, "keptThere")
abbrev mX6_thereAmong : aM := (cX6_thereAmong, 3, some .int, RX6, "thereAmong")
abbrev mX6_greatestShared : aM := (cX6_greatestShared, 11, some .long, RX6, "greatestShared")
abbrev mX6_isRow : aM := (cX6_isRow, 1, some .boolean, RX6, "isRow")
abbrev mX6_isText : aM := (cX6_isText, 1, some .boolean, RX6, "isText")
abbrev mX6_isPlaceKept : aM := (cX6_isPlaceKept, 1, some .boolean, RX6, "isPlaceKept")
abbrev mX7_init : aM := (cX7_init, 2, none, RX7, "<init>")
abbrev mX7_in : aM := (cX7_in, 6, some .boolean, RX7, "in")
abbrev mX7_found : aM := (cX7_found, 2, some .int, RX7, "found")
abbrev mX7_tell : aM := (cX7_tell, 2, some .int, RX7, "tell")
abbrev mX7_isRow : aM := (cX7_isRow, 1, some .boolean, RX7, "isRow")
abbrev mX7_isText : aM := (cX7_isText, 1, some .boolean, RX7, "isText")
abbrev mX7_row : aM := (cX7_row, 4, some .int, RX7, "row")
abbrev mX7_lay : aM := (cX7_lay, 5, some .int, RX7, "lay")
abbrev mX7_at : aM := (cX7_at, 3, some .int, RX7, "at")
abbrev mX7_tear : aM := (cX7_tear, 2, some .int, RX7, "tear")
abbrev mX7_copy : aM := (cX7_copy, 8, some .int, RX7, "copy")
abbrev mX7_mean : aM := (cX7_mean, 5, some .int, RX7, "mean")
abbrev mX7_text : aM := (cX7_text, 4, some .int, RX7, "text")
abbrev mX7_put : aM := (cX7_put, 5, some .int, RX7, "put")
abbrev mX7_kindOf : aM := (cX7_kindOf, 1, some .int, RX7, "kindOf")
abbrev mX7_byteAt : aM := (cX7_byteAt, 2, some .int, RX7, "byteAt")
abbrev mX7_takes : aM := (cX7_takes, 6, some .boolean, RX7, "takes")
abbrev mX7_takesCard : aM := (cX7_takesCard, 4, some .boolean, RX7, "takesCard")
abbrev mX7_takesQuestion : aM := (cX7_takesQuestion, 3, some .boolean, RX7, "takesQuestion")
abbrev mX7_reads : aM := (cX7_reads, 3, some .int, RX7, "reads")
abbrev mX7_fault : aM := (cX7_fault, 2, some .int, RX7, "fault")
abbrev mX7_copies : aM := (cX7_copies, 5, none, RX7, "copies")
abbrev mX7_library : aM := (cX7_library, 3, some .int, RX7, "library")
abbrev mX7_isCard : aM := (cX7_isCard, 2, some .boolean, RX7, "isCard")
abbrev mX7_isQuestion : aM := (cX7_isQuestion, 2, some .boolean, RX7, "isQuestion")
abbrev mX7_isOf : aM := (cX7_isOf, 2, some .boolean, RX7, "isOf")
abbrev mX7_means : aM := (cX7_means, 3, some .int, RX7, "means")
abbrev mX7_suits : aM := (cX7_suits, 5, some .boolean, RX7, "suits")
abbrev mX7_isFit : aM := (cX7_isFit, 3, some .boolean, RX7, "isFit")
abbrev mX7_answers : aM := (cX7_answers, 4, some .int, RX7, "answers")
abbrev mX7_toldCard : aM := (cX7_toldCard, 3, some .int, RX7, "toldCard")
abbrev mX7_card : aM := (cX7_card, 3, some .int, RX7, "card")
abbrev mX7_question : aM := (cX7_question, 3, some .int, RX7, "question")
abbrev mX7_mark : aM := (cX7_mark, 7, some .int, RX7, "mark")
abbrev mX7_puts : aM := (cX7_puts, 4, some .int, RX7, "puts")
abbrev mX7_shelve : aM := (cX7_shelve, 3, some .int, RX7, "shelve")
abbrev mX7_age : aM := (cX7_age, 3, some .int, RX7, "age")
abbrev mX7_truth : aM := (cX7_truth, 3, some .int, RX7, "truth")
abbrev mX7_fits : aM := (cX7_fits, 4, some .int, RX7, "fits")
abbrev mX7_isFreeCard : aM := (cX7_isFreeCard, 2, some .boolean, RX7, "isFreeCard")
abbrev mX7_isFree : aM := (cX7_isFree, 2, some .boolean, RX7, "isFree")
abbrev mX7_takesIt : aM := (cX7_takesIt, 5, none, RX7, "takesIt")
abbrev mX7_stands : aM := (cX7_stands, 2, some .int, RX7, "stands")
abbrev mX7_take : aM := (cX7_take, 3, some .int, RX7, "take")
abbrev mX7_bring : aM := (cX7_bring, 2, some .int, RX7, "bring")
abbrev mX7_undo : aM := (cX7_undo, 4, some .int, RX7, "undo")
abbrev mX7_standing : aM := (cX7_standing, 4, some .int, RX7, "standing")
abbrev mX7_right : aM := (cX7_right, 2, some .int, RX7, "right")
abbrev mX7_keep : aM := (cX7_keep, 2, some .int, RX7, "keep")
abbrev mX7_on : aM := (cX7_on, 2, some .int, RX7, "on")
abbrev mX7_mayMatch : aM := (cX7_mayMatch, 3, some .boolean, RX7, "mayMatch")
abbrev mX7_layMatchings : aM := (cX7_layMatchings, 9, none, RX7, "layMatchings")
abbrev mX7_counts : aM := (cX7_counts, 4, none, RX7, "counts")
abbrev mX7_laid : aM := (cX7_laid, 4, some .int, RX7, "laid")
abbrev mX7_match : aM := (cX7_match, 2, some .int, RX7, "match")
abbrev mX7_wished : aM := (cX7_wished, 2, some .int, RX7, "wished")
abbrev mX7_fullest : aM := (cX7_fullest, 3, some .int, RX7, "fullest")
abbrev mX7_may : aM := (cX7_may, 4, some .int, RX7, "may")
abbrev mX7_sure : aM := (cX7_sure, 4, some .int, RX7, "sure")
abbrev mX7_test : aM := (cX7_test, 5, some .int, RX7, "test")
abbrev mX7_odds : aM := (cX7_odds, 6, some .int, RX7, "odds")
abbrev mX7_worlds : aM := (cX7_worlds, 6, some .int, RX7, "worlds")
abbrev mX7_never : aM := (cX7_never, 5, some .int, RX7, "never")
abbrev mX7_manyFit : aM := (cX7_manyFit, 6, some .int, RX7, "manyFit")
abbrev mX7_parts : aM := (cX7_parts, 10, some .int, RX7, "parts")
abbrev mX7_isOne : aM := (cX7_isOne, 1, some .boolean, RX7, "isOne")
abbrev mX7_finds : aM := (cX7_finds, 9, some .int, RX7, "finds")
abbrev mX7_left : aM := (cX7_left, 6, some .int, RX7, "left")
abbrev mX7_forged : aM := (cX7_forged, 6, some .int, RX7, "forged")
abbrev mX7_lesser : aM := (cX7_lesser, 2, some .int, RX7, "lesser")
abbrev mX7_manyThere : aM := (cX7_manyThere, 7, some .int, RX7, "manyThere")
abbrev mX7_manyHere : aM := (cX7_manyHere, 5, some .int, RX7, "manyHere")
abbrev mX7_beside : aM := (cX7_beside, 6, some .int, RX7, "beside")
abbrev mX7_lying : aM := (cX7_lying, 5, some .int, RX7, "lying")
abbrev mX7_habit : aM := (cX7_habit, 6, some .int, RX7, "habit")
abbrev mX7_order : aM := (cX7_order, 9, some .int, RX7, "order")
abbrev mX7_byAge : aM := (cX7_byAge, 6, some .int, RX7, "byAge")
abbrev mX7_lots : aM := (cX7_lots, 11, some .int, RX7, "lots")
abbrev mX7_asked : aM := (cX7_asked, 1, some .int, RX7, "asked")
abbrev mX7_upper : aM := (cX7_upper, 1, some .long, RX7, "upper")
abbrev mX7_lower : aM := (cX7_lower, 1, some .long, RX7, "lower")
abbrev mX7_counted : aM := (cX7_counted, 4, some .int, RX7, "counted")
abbrev mX7_count : aM := (cX7_count, 2, some .int, RX7, "count")
abbrev mX7_finding : aM := (cX7_finding, 1, some .int, RX7, "finding")
abbrev mX7_findings : aM := (cX7_findings, 2, some .int, RX7, "findings")
abbrev mX7_digest : aM := (cX7_digest, 5, some .long, RX7, "digest")
abbrev mJ6_bitCount_0f7a4 : aM := (cJ6_bitCount_0f7a4, 1, some .int, RJ6, "bitCount")
abbrev mJ9_abs_0f7a4 : aM := (cJ9_abs_0f7a4, 1, some .int, RJ9, "abs")
abbrev mJ9_max_7cf53 : aM := (cJ9_max_7cf53, 2, some .int, RJ9, "max")
abbrev mJ9_min_7cf53 : aM := (cJ9_min_7cf53, 2, some .int, RJ9, "min")
abbrev mJ7_fill_53178 : aM := (cJ7_fill_53178, 4, none, RJ7, "fill")
theorem cb_10 : (Int8.ofInt (10)).toInt32 = (10 : Int32) := by decide +kernel
theorem cb_100 : (Int8.ofInt (100)).toInt32 = (100 : Int32) := by decide +kernel
theorem cb_110 : (Int8.ofInt (110)).toInt32 = (110 : Int32) := by decide +kernel
theorem cb_112 : (Int8.ofInt (112)).toInt32 = (112 : Int32) := by decide +kernel
theorem cb_113 : (Int8.ofInt (113)).toInt32 = (113 : Int32) := by decide +kernel
theorem cb_116 : (Int8.ofInt (116)).toInt32 = (116 : Int32) := by decide +kernel
theorem cb_118 : (Int8.ofInt (118)).toInt32 = (118 : Int32) := by decide +kernel
theorem cb_121 : (Int8.ofInt (121)).toInt32 = (121 : Int32) := by decide +kernel
theorem cb_16 : (Int8.ofInt (16)).toInt32 = (16 : Int32) := by decide +kernel
theorem cb_17 : (Int8.ofInt (17)).toInt32 = (17 : Int32) := by decide +kernel
theorem cb_20 : (Int8.ofInt (20)).toInt32 = (20 : Int32) := by decide +kernel
theorem cb_24 : (Int8.ofInt (24)).toInt32 = (24 : Int32) := by decide +kernel
theorem cb_31 : (Int8.ofInt (31)).toInt32 = (31 : Int32) := by decide +kernel
theorem cb_32 : (Int8.ofInt (32)).toInt32 = (32 : Int32) := by decide +kernel
theorem cb_38 : (Int8.ofInt (38)).toInt32 = (38 : Int32) := by decide +kernel
theorem cb_40 : (Int8.ofInt (40)).toInt32 = (40 : Int32) := by decide +kernel
theorem cb_45 : (Int8.ofInt (45)).toInt32 = (45 : Int32) := by decide +kernel
theorem cb_48 : (Int8.ofInt (48)).toInt32 = (48 : Int32) := by decide +kernel
theorem cb_49 : (Int8.ofInt (49)).toInt32 = (49 : Int32) := by decide +kernel
theorem cb_52 : (Int8.ofInt (52)).toInt32 = (52 : Int32) := by decide +kernel
theorem cb_59 : (Int8.ofInt (59)).toInt32 = (59 : Int32) := by decide +kernel
theorem cb_6 : (Int8.ofInt (6)).toInt32 = (6 : Int32) := by decide +kernel
theorem cb_60 : (Int8.ofInt (60)).toInt32 = (60 : Int32) := by decide +kernel
theorem cb_63 : (Int8.ofInt (63)).toInt32 = (63 : Int32) := by decide +kernel
theorem cb_64 : (Int8.ofInt (64)).toInt32 = (64 : Int32) := by decide +kernel
theorem cb_66 : (Int8.ofInt (66)).toInt32 = (66 : Int32) := by decide +kernel
theorem cb_7 : (Int8.ofInt (7)).toInt32 = (7 : Int32) := by decide +kernel
theorem cb_73 : (Int8.ofInt (73)).toInt32 = (73 : Int32) := by decide +kernel
theorem cb_8 : (Int8.ofInt (8)).toInt32 = (8 : Int32) := by decide +kernel
theorem cb_80 : (Int8.ofInt (80)).toInt32 = (80 : Int32) := by decide +kernel
theorem cb_9 : (Int8.ofInt (9)).toInt32 = (9 : Int32) := by decide +kernel
theorem cb_98 : (Int8.ofInt (98)).toInt32 = (98 : Int32) := by decide +kernel
theorem cb_99 : (Int8.ofInt (99)).toInt32 = (99 : Int32) := by decide +kernel
theorem cb_m2 : (Int8.ofInt (-2)).toInt32 = (-2 : Int32) := by decide +kernel
theorem cb_m3 : (Int8.ofInt (-3)).toInt32 = (-3 : Int32) := by decide +kernel
theorem cb_m4 : (Int8.ofInt (-4)).toInt32 = (-4 : Int32) := by decide +kernel
theorem cb_m9 : (Int8.ofInt (-9)).toInt32 = (-9 : Int32) := by decide +kernel
theorem ci_0 : Int32.ofInt (0) = (0 : Int32) := by decide +kernel
theorem ci_1 : Int32.ofInt (1) = (1 : Int32) := by decide +kernel
theorem ci_2 : Int32.ofInt (2) = (2 : Int32) := by decide +kernel
theorem ci_3 : Int32.ofInt (3) = (3 : Int32) := by decide +kernel
theorem ci_4 : Int32.ofInt (4) = (4 : Int32) := by decide +kernel
theorem ci_5 : Int32.ofInt (5) = (5 : Int32) := by decide +kernel
theorem ci_m1 : Int32.ofInt (-1) = (-1 : Int32) := by decide +kernel
theorem cl_0 : Int64.ofNat ((0 : Fin 2) : Nat) = (0 : Int64) := by decide +kernel
theorem cl_1 : Int64.ofNat ((1 : Fin 2) : Nat) = (1 : Int64) := by decide +kernel
theorem cs_1000 : (Int16.ofInt (1000)).toInt32 = (1000 : Int32) := by decide +kernel
theorem cs_128 : (Int16.ofInt (128)).toInt32 = (128 : Int32) := by decide +kernel
theorem cs_2401 : (Int16.ofInt (2401)).toInt32 = (2401 : Int32) := by decide +kernel
theorem cs_280 : (Int16.ofInt (280)).toInt32 = (280 : Int32) := by decide +kernel
theorem cs_393 : (Int16.ofInt (393)).toInt32 = (393 : Int32) := by decide +kernel
theorem cs_600 : (Int16.ofInt (600)).toInt32 = (600 : Int32) := by decide +kernel
theorem cs_m1000 : (Int16.ofInt (-1000)).toInt32 = (-1000 : Int32) := by decide +kernel
theorem cv_X1_101 : aCV RX1 101 yX1_isFreeQuestion 0 mX1_isFreeQuestion 1 := ⟨⟨TX1, 9, rfl⟩, am_mem 495 (by decide +kernel) rfl, am_mem 479 (by decide +kernel) rfl, am_mem 480 (by decide +kernel) rfl, am_mem 55 (by decide +kernel) rfl, am_mem 481 (by decide +kernel) rfl, by decide +kernel, by decide +kernel, by decide +kernel⟩
theorem cv_X1_108 : aCV RX1 108 yX1_meaningOf 0 mX1_meaningOf 1 := ⟨⟨TX1, 9, rfl⟩, am_mem 398 (by decide +kernel) rfl, am_mem 399 (by decide +kernel) rfl, am_mem 400 (by decide +kernel) rfl, am_mem 55 (by decide +kernel) rfl, am_mem 401 (by decide +kernel) rfl, by decide +kernel, by decide +kernel, by decide +kernel⟩
theorem cv_X1_115 : aCV RX1 115 yX1_isFitting 0 mX1_isFitting 2 := ⟨⟨TX1, 9, rfl⟩, am_mem 445 (by decide +kernel) rfl, am_mem 446 (by decide +kernel) rfl, am_mem 447 (by decide +kernel) rfl, am_mem 55 (by decide +kernel) rfl, am_mem 448 (by decide +kernel) rfl, by decide +kernel, by decide +kernel, by decide +kernel⟩
theorem cv_X1_121 : aCV RX1 121 yX1_verdict 0 mX1_verdict 1 := ⟨⟨TX1, 9, rfl⟩, am_mem 516 (by decide +kernel) rfl, am_mem 492 (by decide +kernel) rfl, am_mem 493 (by decide +kernel) rfl, am_mem 55 (by decide +kernel) rfl, am_mem 494 (by decide +kernel) rfl, by decide +kernel, by decide +kernel, by decide +kernel⟩
theorem cv_X1_124 : aCV RX1 124 yX1_yesMeaning 0 mX1_yesMeaning 1 := ⟨⟨TX1, 9, rfl⟩, am_mem 432 (by decide +kernel) rfl, am_mem 434 (by decide +kernel) rfl, am_mem 3 (by decide +kernel) rfl, am_mem 55 (by decide +kernel) rfl, am_mem 435 (by decide +kernel) rfl, by decide +kernel, by decide +kernel, by decide +kernel⟩
theorem cv_X1_127 : aCV RX1 127 yX1_cardsOn 0 mX1_cardsOn 1 := ⟨⟨TX1, 9, rfl⟩, am_mem 437 (by decide +kernel) rfl, am_mem 439 (by decide +kernel) rfl, am_mem 4 (by decide +kernel) rfl, am_mem 55 (by decide +kernel) rfl, am_mem 440 (by decide +kernel) rfl, by decide +kernel, by decide +kernel, by decide +kernel⟩
theorem cv_X1_130 : aCV RX1 130 yX1_questionsFitted 0 mX1_questionsFitted 1 := ⟨⟨TX1, 9, rfl⟩, am_mem 441 (by decide +kernel) rfl, am_mem 442 (by decide +kernel) rfl, am_mem 443 (by decide +kernel) rfl, am_mem 55 (by decide +kernel) rfl, am_mem 444 (by decide +kernel) rfl, by decide +kernel, by decide +kernel, by decide +kernel⟩
theorem cv_X1_133 : aCV RX1 133 yX1_placesSaying 0 mX1_placesSaying 1 := ⟨⟨TX1, 9, rfl⟩, am_mem 449 (by decide +kernel) rfl, am_mem 451 (by decide +kernel) rfl, am_mem 5 (by decide +kernel) rfl, am_mem 55 (by decide +kernel) rfl, am_mem 452 (by decide +kernel) rfl, by decide +kernel, by decide +kernel, by decide +kernel⟩
theorem cv_X1_136 : aCV RX1 136 yX1_firstAlike 0 mX1_firstAlike 3 := ⟨⟨TX1, 9, rfl⟩, am_mem 717 (by decide +kernel) rfl, am_mem 719 (by decide +kernel) rfl, am_mem 18 (by decide +kernel) rfl, am_mem 55 (by decide +kernel) rfl, am_mem 720 (by decide +kernel) rfl, by decide +kernel, by decide +kernel, by decide +kernel⟩
theorem cv_X1_145 : aCV RX1 145 yX1_cardsOfOn 0 mX1_cardsOfOn 2 := ⟨⟨TX1, 9, rfl⟩, am_mem 734 (by decide +kernel) rfl, am_mem 736 (by decide +kernel) rfl, am_mem 20 (by decide +kernel) rfl, am_mem 55 (by decide +kernel) rfl, am_mem 737 (by decide +kernel) rfl, by decide +kernel, by decide +kernel, by decide +kernel⟩
theorem cv_X1_148 : aCV RX1 148 yX1_homeOf 0 mX1_homeOf 1 := ⟨⟨TX1, 9, rfl⟩, am_mem 730 (by decide +kernel) rfl, am_mem 732 (by decide +kernel) rfl, am_mem 19 (by decide +kernel) rfl, am_mem 55 (by decide +kernel) rfl, am_mem 733 (by decide +kernel) rfl, by decide +kernel, by decide +kernel, by decide +kernel⟩
theorem cv_X1_155 : aCV RX1 155 yX4_begin 3 mX4_begin 2 := ⟨⟨TX4, 2, rfl⟩, am_mem 758 (by decide +kernel) rfl, am_mem 300 (by decide +kernel) rfl, am_mem 301 (by decide +kernel) rfl, am_mem 58 (by decide +kernel) rfl, am_mem 302 (by decide +kernel) rfl, by decide +kernel, by decide +kernel, by decide +kernel⟩
theorem cv_X1_158 : aCV RX1 158 yX4_layAt 3 mX4_layAt 2 := ⟨⟨TX4, 2, rfl⟩, am_mem 759 (by decide +kernel) rfl, am_mem 591 (by decide +kernel) rfl, am_mem 592 (by decide +kernel) rfl, am_mem 58 (by decide +kernel) rfl, am_mem 593 (by decide +kernel) rfl, by decide +kernel, by decide +kernel, by decide +kernel⟩
theorem cv_X1_161 : aCV RX1 161 yX1_fittingCards 0 mX1_fittingCards 1 := ⟨⟨TX1, 9, rfl⟩, am_mem 772 (by decide +kernel) rfl, am_mem 470 (by decide +kernel) rfl, am_mem 471 (by decide +kernel) rfl, am_mem 55 (by decide +kernel) rfl, am_mem 472 (by decide +kernel) rfl, by decide +kernel, by decide +kernel, by decide +kernel⟩
theorem cv_X1_164 : aCV RX1 164 yX1_freeCards 0 mX1_freeCards 0 := ⟨⟨TX1, 9, rfl⟩, am_mem 773 (by decide +kernel) rfl, am_mem 545 (by decide +kernel) rfl, am_mem 546 (by decide +kernel) rfl, am_mem 55 (by decide +kernel) rfl, am_mem 547 (by decide +kernel) rfl, by decide +kernel, by decide +kernel, by decide +kernel⟩
theorem cv_X1_169 : aCV RX1 169 yX1_cardFact 0 mX1_cardFact 2 := ⟨⟨TX1, 9, rfl⟩, am_mem 825 (by decide +kernel) rfl, am_mem 395 (by decide +kernel) rfl, am_mem 396 (by decide +kernel) rfl, am_mem 55 (by decide +kernel) rfl, am_mem 397 (by decide +kernel) rfl, by decide +kernel, by decide +kernel, by decide +kernel⟩
theorem cv_X1_172 : aCV RX1 172 yX1_questionFact 0 mX1_questionFact 2 := ⟨⟨TX1, 9, rfl⟩, am_mem 826 (by decide +kernel) rfl, am_mem 418 (by decide +kernel) rfl, am_mem 419 (by decide +kernel) rfl, am_mem 55 (by decide +kernel) rfl, am_mem 420 (by decide +kernel) rfl, by decide +kernel, by decide +kernel, by decide +kernel⟩
theorem cv_X1_44 : aCV RX1 44 yX5_begin 4 mX5_begin 0 := ⟨⟨TX5, 7, rfl⟩, am_mem 186 (by decide +kernel) rfl, am_mem 187 (by decide +kernel) rfl, am_mem 188 (by decide +kernel) rfl, am_mem 56 (by decide +kernel) rfl, am_mem 189 (by decide +kernel) rfl, by decide +kernel, by decide +kernel, by decide +kernel⟩
theorem cv_X1_56 : aCV RX1 56 yX4_reaches 3 mX4_reaches 1 := ⟨⟨TX4, 2, rfl⟩, am_mem 364 (by decide +kernel) rfl, am_mem 316 (by decide +kernel) rfl, am_mem 317 (by decide +kernel) rfl, am_mem 58 (by decide +kernel) rfl, am_mem 318 (by decide +kernel) rfl, by decide +kernel, by decide +kernel, by decide +kernel⟩
theorem cv_X1_63 : aCV RX1 63 yX1_readQuestion 0 mX1_readQuestion 2 := ⟨⟨TX1, 9, rfl⟩, am_mem 365 (by decide +kernel) rfl, am_mem 367 (by decide +kernel) rfl, am_mem 1 (by decide +kernel) rfl, am_mem 55 (by decide +kernel) rfl, am_mem 368 (by decide +kernel) rfl, by decide +kernel, by decide +kernel, by decide +kernel⟩
theorem cv_X1_66 : aCV RX1 66 yX1_readCard 0 mX1_readCard 2 := ⟨⟨TX1, 9, rfl⟩, am_mem 373 (by decide +kernel) rfl, am_mem 375 (by decide +kernel) rfl, am_mem 2 (by decide +kernel) rfl, am_mem 55 (by decide +kernel) rfl, am_mem 376 (by decide +kernel) rfl, by decide +kernel, by decide +kernel, by decide +kernel⟩
theorem cv_X1_91 : aCV RX1 91 yX5_questionOf 4 mX5_questionOf 1 := ⟨⟨TX5, 7, rfl⟩, am_mem 405 (by decide +kernel) rfl, am_mem 406 (by decide +kernel) rfl, am_mem 407 (by decide +kernel) rfl, am_mem 56 (by decide +kernel) rfl, am_mem 408 (by decide +kernel) rfl, by decide +kernel, by decide +kernel, by decide +kernel⟩
theorem cv_X1_97 : aCV RX1 97 yX1_allCards 0 mX1_allCards 0 := ⟨⟨TX1, 9, rfl⟩, am_mem 548 (by decide +kernel) rfl, am_mem 549 (by decide +kernel) rfl, am_mem 550 (by decide +kernel) rfl, am_mem 55 (by decide +kernel) rfl, am_mem 551 (by decide +kernel) rfl, by decide +kernel, by decide +kernel, by decide +kernel⟩
theorem cv_X2_105 : aCV RX2 105 yX2_mostFrom 1 mX2_mostFrom 3 := ⟨⟨TX2, 8, rfl⟩, am_mem 603 (by decide +kernel) rfl, am_mem 605 (by decide +kernel) rfl, am_mem 12 (by decide +kernel) rfl, am_mem 53 (by decide +kernel) rfl, am_mem 606 (by decide +kernel) rfl, by decide +kernel, by decide +kernel, by decide +kernel⟩
theorem cv_X2_109 : aCV RX2 109 yX2_firstWished 1 mX2_firstWished 3 := ⟨⟨TX2, 8, rfl⟩, am_mem 607 (by decide +kernel) rfl, am_mem 609 (by decide +kernel) rfl, am_mem 13 (by decide +kernel) rfl, am_mem 53 (by decide +kernel) rfl, am_mem 610 (by decide +kernel) rfl, by decide +kernel, by decide +kernel, by decide +kernel⟩
theorem cv_X2_37 : aCV RX2 37 yX2_countAhead 1 mX2_countAhead 1 := ⟨⟨TX2, 8, rfl⟩, am_mem 540 (by decide +kernel) rfl, am_mem 542 (by decide +kernel) rfl, am_mem 6 (by decide +kernel) rfl, am_mem 53 (by decide +kernel) rfl, am_mem 543 (by decide +kernel) rfl, by decide +kernel, by decide +kernel, by decide +kernel⟩
theorem cv_X2_41 : aCV RX2 41 yX2_mostPairs 1 mX2_mostPairs 0 := ⟨⟨TX2, 8, rfl⟩, am_mem 562 (by decide +kernel) rfl, am_mem 564 (by decide +kernel) rfl, am_mem 8 (by decide +kernel) rfl, am_mem 53 (by decide +kernel) rfl, am_mem 565 (by decide +kernel) rfl, by decide +kernel, by decide +kernel, by decide +kernel⟩
theorem cv_X2_45 : aCV RX2 45 yX2_countOn 1 mX2_countOn 0 := ⟨⟨TX2, 8, rfl⟩, am_mem 573 (by decide +kernel) rfl, am_mem 575 (by decide +kernel) rfl, am_mem 9 (by decide +kernel) rfl, am_mem 53 (by decide +kernel) rfl, am_mem 576 (by decide +kernel) rfl, by decide +kernel, by decide +kernel, by decide +kernel⟩
theorem cv_X2_52 : aCV RX2 52 yX1_freeCards 0 mX1_freeCards 0 := ⟨⟨TX1, 9, rfl⟩, am_mem 544 (by decide +kernel) rfl, am_mem 545 (by decide +kernel) rfl, am_mem 546 (by decide +kernel) rfl, am_mem 55 (by decide +kernel) rfl, am_mem 547 (by decide +kernel) rfl, by decide +kernel, by decide +kernel, by decide +kernel⟩
theorem cv_X2_61 : aCV RX2 61 yX1_isFreeQuestion 0 mX1_isFreeQuestion 1 := ⟨⟨TX1, 9, rfl⟩, am_mem 553 (by decide +kernel) rfl, am_mem 479 (by decide +kernel) rfl, am_mem 480 (by decide +kernel) rfl, am_mem 55 (by decide +kernel) rfl, am_mem 481 (by decide +kernel) rfl, by decide +kernel, by decide +kernel, by decide +kernel⟩
theorem cv_X2_65 : aCV RX2 65 yX1_trueCards 0 mX1_trueCards 1 := ⟨⟨TX1, 9, rfl⟩, am_mem 554 (by decide +kernel) rfl, am_mem 555 (by decide +kernel) rfl, am_mem 556 (by decide +kernel) rfl, am_mem 55 (by decide +kernel) rfl, am_mem 557 (by decide +kernel) rfl, by decide +kernel, by decide +kernel, by decide +kernel⟩
theorem cv_X2_69 : aCV RX2 69 yX2_spreadAhead 1 mX2_spreadAhead 3 := ⟨⟨TX2, 8, rfl⟩, am_mem 558 (by decide +kernel) rfl, am_mem 560 (by decide +kernel) rfl, am_mem 7 (by decide +kernel) rfl, am_mem 53 (by decide +kernel) rfl, am_mem 561 (by decide +kernel) rfl, by decide +kernel, by decide +kernel, by decide +kernel⟩
theorem cv_X2_84 : aCV RX2 84 yX2_waysFrom 1 mX2_waysFrom 2 := ⟨⟨TX2, 8, rfl⟩, am_mem 577 (by decide +kernel) rfl, am_mem 579 (by decide +kernel) rfl, am_mem 10 (by decide +kernel) rfl, am_mem 53 (by decide +kernel) rfl, am_mem 580 (by decide +kernel) rfl, by decide +kernel, by decide +kernel, by decide +kernel⟩
theorem cv_X2_87 : aCV RX2 87 yX2_countWith 1 mX2_countWith 2 := ⟨⟨TX2, 8, rfl⟩, am_mem 619 (by decide +kernel) rfl, am_mem 620 (by decide +kernel) rfl, am_mem 621 (by decide +kernel) rfl, am_mem 53 (by decide +kernel) rfl, am_mem 622 (by decide +kernel) rfl, by decide +kernel, by decide +kernel, by decide +kernel⟩
theorem cv_X2_90 : aCV RX2 90 yX4_begin 3 mX4_begin 2 := ⟨⟨TX4, 2, rfl⟩, am_mem 585 (by decide +kernel) rfl, am_mem 300 (by decide +kernel) rfl, am_mem 301 (by decide +kernel) rfl, am_mem 58 (by decide +kernel) rfl, am_mem 302 (by decide +kernel) rfl, by decide +kernel, by decide +kernel, by decide +kernel⟩
theorem cv_X2_96 : aCV RX2 96 yX2_firstFullest 1 mX2_firstFullest 2 := ⟨⟨TX2, 8, rfl⟩, am_mem 586 (by decide +kernel) rfl, am_mem 588 (by decide +kernel) rfl, am_mem 11 (by decide +kernel) rfl, am_mem 53 (by decide +kernel) rfl, am_mem 589 (by decide +kernel) rfl, by decide +kernel, by decide +kernel, by decide +kernel⟩
theorem cv_X2_99 : aCV RX2 99 yX4_layAt 3 mX4_layAt 2 := ⟨⟨TX4, 2, rfl⟩, am_mem 590 (by decide +kernel) rfl, am_mem 591 (by decide +kernel) rfl, am_mem 592 (by decide +kernel) rfl, am_mem 58 (by decide +kernel) rfl, am_mem 593 (by decide +kernel) rfl, by decide +kernel, by decide +kernel, by decide +kernel⟩
theorem cv_X3_37 : aCV RX3 37 yX3_countMeanings 2 mX3_countMeanings 2 := ⟨⟨TX3, 7, rfl⟩, am_mem 670 (by decide +kernel) rfl, am_mem 672 (by decide +kernel) rfl, am_mem 15 (by decide +kernel) rfl, am_mem 54 (by decide +kernel) rfl, am_mem 673 (by decide +kernel) rfl, by decide +kernel, by decide +kernel, by decide +kernel⟩
theorem cv_X3_46 : aCV RX3 46 yX3_partFrom 2 mX3_partFrom 3 := ⟨⟨TX3, 7, rfl⟩, am_mem 677 (by decide +kernel) rfl, am_mem 679 (by decide +kernel) rfl, am_mem 16 (by decide +kernel) rfl, am_mem 54 (by decide +kernel) rfl, am_mem 680 (by decide +kernel) rfl, by decide +kernel, by decide +kernel, by decide +kernel⟩
theorem cv_X3_65 : aCV RX3 65 yX1_meaningOf 0 mX1_meaningOf 1 := ⟨⟨TX1, 9, rfl⟩, am_mem 676 (by decide +kernel) rfl, am_mem 399 (by decide +kernel) rfl, am_mem 400 (by decide +kernel) rfl, am_mem 55 (by decide +kernel) rfl, am_mem 401 (by decide +kernel) rfl, by decide +kernel, by decide +kernel, by decide +kernel⟩
theorem cv_X3_77 : aCV RX3 77 yX1_fittingCards 0 mX1_fittingCards 1 := ⟨⟨TX1, 9, rfl⟩, am_mem 692 (by decide +kernel) rfl, am_mem 470 (by decide +kernel) rfl, am_mem 471 (by decide +kernel) rfl, am_mem 55 (by decide +kernel) rfl, am_mem 472 (by decide +kernel) rfl, by decide +kernel, by decide +kernel, by decide +kernel⟩
theorem cv_X3_80 : aCV RX3 80 yX3_fewestFor 2 mX3_fewestFor 2 := ⟨⟨TX3, 7, rfl⟩, am_mem 693 (by decide +kernel) rfl, am_mem 695 (by decide +kernel) rfl, am_mem 17 (by decide +kernel) rfl, am_mem 54 (by decide +kernel) rfl, am_mem 696 (by decide +kernel) rfl, by decide +kernel, by decide +kernel, by decide +kernel⟩
theorem cv_X4_34 : aCV RX4 34 yX4_reaches 3 mX4_reaches 1 := ⟨⟨TX4, 2, rfl⟩, am_mem 594 (by decide +kernel) rfl, am_mem 316 (by decide +kernel) rfl, am_mem 317 (by decide +kernel) rfl, am_mem 58 (by decide +kernel) rfl, am_mem 318 (by decide +kernel) rfl, by decide +kernel, by decide +kernel, by decide +kernel⟩
theorem cv_X6_108 : aCV RX6 108 yX1_readFrom 0 mX1_readFrom 1 := ⟨⟨TX1, 9, rfl⟩, am_mem 357 (by decide +kernel) rfl, am_mem 358 (by decide +kernel) rfl, am_mem 359 (by decide +kernel) rfl, am_mem 55 (by decide +kernel) rfl, am_mem 360 (by decide +kernel) rfl, by decide +kernel, by decide +kernel, by decide +kernel⟩
theorem cv_X6_118 : aCV RX6 118 yX1_isCard 0 mX1_isCard 1 := ⟨⟨TX1, 9, rfl⟩, am_mem 390 (by decide +kernel) rfl, am_mem 391 (by decide +kernel) rfl, am_mem 392 (by decide +kernel) rfl, am_mem 55 (by decide +kernel) rfl, am_mem 393 (by decide +kernel) rfl, by decide +kernel, by decide +kernel, by decide +kernel⟩
theorem cv_X6_121 : aCV RX6 121 yX1_cardFact 0 mX1_cardFact 2 := ⟨⟨TX1, 9, rfl⟩, am_mem 394 (by decide +kernel) rfl, am_mem 395 (by decide +kernel) rfl, am_mem 396 (by decide +kernel) rfl, am_mem 55 (by decide +kernel) rfl, am_mem 397 (by decide +kernel) rfl, by decide +kernel, by decide +kernel, by decide +kernel⟩
theorem cv_X6_125 : aCV RX6 125 yX1_isQuestion 0 mX1_isQuestion 1 := ⟨⟨TX1, 9, rfl⟩, am_mem 413 (by decide +kernel) rfl, am_mem 414 (by decide +kernel) rfl, am_mem 415 (by decide +kernel) rfl, am_mem 55 (by decide +kernel) rfl, am_mem 416 (by decide +kernel) rfl, by decide +kernel, by decide +kernel, by decide +kernel⟩
theorem cv_X6_128 : aCV RX6 128 yX1_questionFact 0 mX1_questionFact 2 := ⟨⟨TX1, 9, rfl⟩, am_mem 417 (by decide +kernel) rfl, am_mem 418 (by decide +kernel) rfl, am_mem 419 (by decide +kernel) rfl, am_mem 55 (by decide +kernel) rfl, am_mem 420 (by decide +kernel) rfl, by decide +kernel, by decide +kernel, by decide +kernel⟩
theorem cv_X6_139 : aCV RX6 139 yX1_markOf 0 mX1_markOf 2 := ⟨⟨TX1, 9, rfl⟩, am_mem 428 (by decide +kernel) rfl, am_mem 429 (by decide +kernel) rfl, am_mem 430 (by decide +kernel) rfl, am_mem 55 (by decide +kernel) rfl, am_mem 431 (by decide +kernel) rfl, by decide +kernel, by decide +kernel, by decide +kernel⟩
theorem cv_X6_155 : aCV RX6 155 yX1_fittingCards 0 mX1_fittingCards 1 := ⟨⟨TX1, 9, rfl⟩, am_mem 469 (by decide +kernel) rfl, am_mem 470 (by decide +kernel) rfl, am_mem 471 (by decide +kernel) rfl, am_mem 55 (by decide +kernel) rfl, am_mem 472 (by decide +kernel) rfl, by decide +kernel, by decide +kernel, by decide +kernel⟩
theorem cv_X6_158 : aCV RX6 158 yX1_isFitting 0 mX1_isFitting 2 := ⟨⟨TX1, 9, rfl⟩, am_mem 477 (by decide +kernel) rfl, am_mem 446 (by decide +kernel) rfl, am_mem 447 (by decide +kernel) rfl, am_mem 55 (by decide +kernel) rfl, am_mem 448 (by decide +kernel) rfl, by decide +kernel, by decide +kernel, by decide +kernel⟩
theorem cv_X6_161 : aCV RX6 161 yX1_isFreeQuestion 0 mX1_isFreeQuestion 1 := ⟨⟨TX1, 9, rfl⟩, am_mem 478 (by decide +kernel) rfl, am_mem 479 (by decide +kernel) rfl, am_mem 480 (by decide +kernel) rfl, am_mem 55 (by decide +kernel) rfl, am_mem 481 (by decide +kernel) rfl, by decide +kernel, by decide +kernel, by decide +kernel⟩
theorem cv_X6_164 : aCV RX6 164 yX1_isFreeCard 0 mX1_isFreeCard 1 := ⟨⟨TX1, 9, rfl⟩, am_mem 482 (by decide +kernel) rfl, am_mem 483 (by decide +kernel) rfl, am_mem 484 (by decide +kernel) rfl, am_mem 55 (by decide +kernel) rfl, am_mem 485 (by decide +kernel) rfl, by decide +kernel, by decide +kernel, by decide +kernel⟩
theorem cv_X6_167 : aCV RX6 167 yX5_addTaking 4 mX5_addTaking 2 := ⟨⟨TX5, 7, rfl⟩, am_mem 486 (by decide +kernel) rfl, am_mem 487 (by decide +kernel) rfl, am_mem 488 (by decide +kernel) rfl, am_mem 56 (by decide +kernel) rfl, am_mem 489 (by decide +kernel) rfl, by decide +kernel, by decide +kernel, by decide +kernel⟩
theorem cv_X6_170 : aCV RX6 170 yX1_verdict 0 mX1_verdict 1 := ⟨⟨TX1, 9, rfl⟩, am_mem 491 (by decide +kernel) rfl, am_mem 492 (by decide +kernel) rfl, am_mem 493 (by decide +kernel) rfl, am_mem 55 (by decide +kernel) rfl, am_mem 494 (by decide +kernel) rfl, by decide +kernel, by decide +kernel, by decide +kernel⟩
theorem cv_X6_176 : aCV RX6 176 yX5_goBack 4 mX5_goBack 1 := ⟨⟨TX5, 7, rfl⟩, am_mem 504 (by decide +kernel) rfl, am_mem 505 (by decide +kernel) rfl, am_mem 506 (by decide +kernel) rfl, am_mem 56 (by decide +kernel) rfl, am_mem 507 (by decide +kernel) rfl, by decide +kernel, by decide +kernel, by decide +kernel⟩
theorem cv_X6_179 : aCV RX6 179 yX1_answeredWith 0 mX1_answeredWith 1 := ⟨⟨TX1, 9, rfl⟩, am_mem 512 (by decide +kernel) rfl, am_mem 513 (by decide +kernel) rfl, am_mem 514 (by decide +kernel) rfl, am_mem 55 (by decide +kernel) rfl, am_mem 515 (by decide +kernel) rfl, by decide +kernel, by decide +kernel, by decide +kernel⟩
theorem cv_X6_185 : aCV RX6 185 yX5_become 4 mX5_become 1 := ⟨⟨TX5, 7, rfl⟩, am_mem 524 (by decide +kernel) rfl, am_mem 525 (by decide +kernel) rfl, am_mem 526 (by decide +kernel) rfl, am_mem 56 (by decide +kernel) rfl, am_mem 527 (by decide +kernel) rfl, by decide +kernel, by decide +kernel, by decide +kernel⟩
theorem cv_X6_189 : aCV RX6 189 yX2_countIn 1 mX2_countIn 1 := ⟨⟨TX2, 8, rfl⟩, am_mem 536 (by decide +kernel) rfl, am_mem 537 (by decide +kernel) rfl, am_mem 538 (by decide +kernel) rfl, am_mem 53 (by decide +kernel) rfl, am_mem 539 (by decide +kernel) rfl, by decide +kernel, by decide +kernel, by decide +kernel⟩
theorem cv_X6_193 : aCV RX6 193 yX2_layFullest 1 mX2_layFullest 1 := ⟨⟨TX2, 8, rfl⟩, am_mem 581 (by decide +kernel) rfl, am_mem 582 (by decide +kernel) rfl, am_mem 583 (by decide +kernel) rfl, am_mem 53 (by decide +kernel) rfl, am_mem 584 (by decide +kernel) rfl, by decide +kernel, by decide +kernel, by decide +kernel⟩
theorem cv_X6_200 : aCV RX6 200 yX2_layMostWished 1 mX2_layMostWished 2 := ⟨⟨TX2, 8, rfl⟩, am_mem 599 (by decide +kernel) rfl, am_mem 600 (by decide +kernel) rfl, am_mem 601 (by decide +kernel) rfl, am_mem 53 (by decide +kernel) rfl, am_mem 602 (by decide +kernel) rfl, by decide +kernel, by decide +kernel, by decide +kernel⟩
theorem cv_X6_207 : aCV RX6 207 yX2_sureCard 1 mX2_sureCard 1 := ⟨⟨TX2, 8, rfl⟩, am_mem 615 (by decide +kernel) rfl, am_mem 616 (by decide +kernel) rfl, am_mem 617 (by decide +kernel) rfl, am_mem 53 (by decide +kernel) rfl, am_mem 618 (by decide +kernel) rfl, by decide +kernel, by decide +kernel, by decide +kernel⟩
theorem cv_X6_213 : aCV RX6 213 yX2_countWith 1 mX2_countWith 2 := ⟨⟨TX2, 8, rfl⟩, am_mem 627 (by decide +kernel) rfl, am_mem 620 (by decide +kernel) rfl, am_mem 621 (by decide +kernel) rfl, am_mem 53 (by decide +kernel) rfl, am_mem 622 (by decide +kernel) rfl, by decide +kernel, by decide +kernel, by decide +kernel⟩
theorem cv_X6_221 : aCV RX6 221 yX6_tellChances 5 mX6_tellChances 2 := ⟨⟨TX6, 12, rfl⟩, am_mem 641 (by decide +kernel) rfl, am_mem 643 (by decide +kernel) rfl, am_mem 14 (by decide +kernel) rfl, am_mem 52 (by decide +kernel) rfl, am_mem 644 (by decide +kernel) rfl, by decide +kernel, by decide +kernel, by decide +kernel⟩
theorem cv_X6_225 : aCV RX6 225 yX1_waysOfTruth 0 mX1_waysOfTruth 1 := ⟨⟨TX1, 9, rfl⟩, am_mem 652 (by decide +kernel) rfl, am_mem 653 (by decide +kernel) rfl, am_mem 654 (by decide +kernel) rfl, am_mem 55 (by decide +kernel) rfl, am_mem 655 (by decide +kernel) rfl, by decide +kernel, by decide +kernel, by decide +kernel⟩
theorem cv_X6_228 : aCV RX6 228 yX1_trueCards 0 mX1_trueCards 1 := ⟨⟨TX1, 9, rfl⟩, am_mem 660 (by decide +kernel) rfl, am_mem 555 (by decide +kernel) rfl, am_mem 556 (by decide +kernel) rfl, am_mem 55 (by decide +kernel) rfl, am_mem 557 (by decide +kernel) rfl, by decide +kernel, by decide +kernel, by decide +kernel⟩
theorem cv_X6_231 : aCV RX6 231 yX3_partBest 2 mX3_partBest 1 := ⟨⟨TX3, 7, rfl⟩, am_mem 665 (by decide +kernel) rfl, am_mem 666 (by decide +kernel) rfl, am_mem 667 (by decide +kernel) rfl, am_mem 54 (by decide +kernel) rfl, am_mem 668 (by decide +kernel) rfl, by decide +kernel, by decide +kernel, by decide +kernel⟩
theorem cv_X6_240 : aCV RX6 240 yX3_findIn 2 mX3_findIn 2 := ⟨⟨TX3, 7, rfl⟩, am_mem 688 (by decide +kernel) rfl, am_mem 689 (by decide +kernel) rfl, am_mem 690 (by decide +kernel) rfl, am_mem 54 (by decide +kernel) rfl, am_mem 691 (by decide +kernel) rfl, by decide +kernel, by decide +kernel, by decide +kernel⟩
theorem cv_X6_247 : aCV RX6 247 yX1_allCards 0 mX1_allCards 0 := ⟨⟨TX1, 9, rfl⟩, am_mem 703 (by decide +kernel) rfl, am_mem 549 (by decide +kernel) rfl, am_mem 550 (by decide +kernel) rfl, am_mem 55 (by decide +kernel) rfl, am_mem 551 (by decide +kernel) rfl, by decide +kernel, by decide +kernel, by decide +kernel⟩
theorem cv_X6_251 : aCV RX6 251 yX1_questionsFitted 0 mX1_questionsFitted 1 := ⟨⟨TX1, 9, rfl⟩, am_mem 708 (by decide +kernel) rfl, am_mem 442 (by decide +kernel) rfl, am_mem 443 (by decide +kernel) rfl, am_mem 55 (by decide +kernel) rfl, am_mem 444 (by decide +kernel) rfl, by decide +kernel, by decide +kernel, by decide +kernel⟩
theorem cv_X6_254 : aCV RX6 254 yX1_pairsWith 0 mX1_pairsWith 2 := ⟨⟨TX1, 9, rfl⟩, am_mem 713 (by decide +kernel) rfl, am_mem 714 (by decide +kernel) rfl, am_mem 715 (by decide +kernel) rfl, am_mem 55 (by decide +kernel) rfl, am_mem 716 (by decide +kernel) rfl, by decide +kernel, by decide +kernel, by decide +kernel⟩
theorem cv_X6_258 : aCV RX6 258 yX1_strayCards 0 mX1_strayCards 0 := ⟨⟨TX1, 9, rfl⟩, am_mem 726 (by decide +kernel) rfl, am_mem 727 (by decide +kernel) rfl, am_mem 728 (by decide +kernel) rfl, am_mem 55 (by decide +kernel) rfl, am_mem 729 (by decide +kernel) rfl, by decide +kernel, by decide +kernel, by decide +kernel⟩
theorem cv_X6_266 : aCV RX6 266 yX1_fewestMoved 0 mX1_fewestMoved 0 := ⟨⟨TX1, 9, rfl⟩, am_mem 743 (by decide +kernel) rfl, am_mem 744 (by decide +kernel) rfl, am_mem 745 (by decide +kernel) rfl, am_mem 55 (by decide +kernel) rfl, am_mem 746 (by decide +kernel) rfl, by decide +kernel, by decide +kernel, by decide +kernel⟩
theorem cv_X6_269 : aCV RX6 269 yX1_layByAge 0 mX1_layByAge 1 := ⟨⟨TX1, 9, rfl⟩, am_mem 754 (by decide +kernel) rfl, am_mem 755 (by decide +kernel) rfl, am_mem 756 (by decide +kernel) rfl, am_mem 55 (by decide +kernel) rfl, am_mem 757 (by decide +kernel) rfl, by decide +kernel, by decide +kernel, by decide +kernel⟩
theorem cv_X6_279 : aCV RX6 279 yX1_cardByLot 0 mX1_cardByLot 2 := ⟨⟨TX1, 9, rfl⟩, am_mem 768 (by decide +kernel) rfl, am_mem 769 (by decide +kernel) rfl, am_mem 770 (by decide +kernel) rfl, am_mem 55 (by decide +kernel) rfl, am_mem 771 (by decide +kernel) rfl, by decide +kernel, by decide +kernel, by decide +kernel⟩
theorem cv_X6_283 : aCV RX6 283 yX1_answered 0 mX1_answered 0 := ⟨⟨TX1, 9, rfl⟩, am_mem 790 (by decide +kernel) rfl, am_mem 791 (by decide +kernel) rfl, am_mem 792 (by decide +kernel) rfl, am_mem 55 (by decide +kernel) rfl, am_mem 793 (by decide +kernel) rfl, by decide +kernel, by decide +kernel, by decide +kernel⟩
theorem cv_X6_286 : aCV RX6 286 yX1_placesAmong 0 mX1_placesAmong 0 := ⟨⟨TX1, 9, rfl⟩, am_mem 794 (by decide +kernel) rfl, am_mem 795 (by decide +kernel) rfl, am_mem 796 (by decide +kernel) rfl, am_mem 55 (by decide +kernel) rfl, am_mem 797 (by decide +kernel) rfl, by decide +kernel, by decide +kernel, by decide +kernel⟩
theorem cv_X6_293 : aCV RX6 293 yX6_keptThere 5 mX6_keptThere 0 := ⟨⟨TX6, 12, rfl⟩, am_mem 801 (by decide +kernel) rfl, am_mem 803 (by decide +kernel) rfl, am_mem 21 (by decide +kernel) rfl, am_mem 52 (by decide +kernel) rfl, am_mem 804 (by decide +kernel) rfl, by decide +kernel, by decide +kernel, by decide +kernel⟩
theorem cv_X6_300 : aCV RX6 300 yX6_count 5 mX6_count 1 := ⟨⟨TX6, 12, rfl⟩, am_mem 819 (by decide +kernel) rfl, am_mem 787 (by decide +kernel) rfl, am_mem 788 (by decide +kernel) rfl, am_mem 52 (by decide +kernel) rfl, am_mem 789 (by decide +kernel) rfl, by decide +kernel, by decide +kernel, by decide +kernel⟩
theorem cv_X6_303 : aCV RX6 303 yX1_foldInto 0 mX1_foldInto 1 := ⟨⟨TX1, 9, rfl⟩, am_mem 820 (by decide +kernel) rfl, am_mem 821 (by decide +kernel) rfl, am_mem 822 (by decide +kernel) rfl, am_mem 55 (by decide +kernel) rfl, am_mem 823 (by decide +kernel) rfl, by decide +kernel, by decide +kernel, by decide +kernel⟩
theorem cv_X6_307 : aCV RX6 307 yX4_foldInto 3 mX4_foldInto 1 := ⟨⟨TX4, 2, rfl⟩, am_mem 827 (by decide +kernel) rfl, am_mem 828 (by decide +kernel) rfl, am_mem 829 (by decide +kernel) rfl, am_mem 58 (by decide +kernel) rfl, am_mem 830 (by decide +kernel) rfl, by decide +kernel, by decide +kernel, by decide +kernel⟩
theorem cv_X6_74 : aCV RX6 74 yX6_found 5 mX6_found 1 := ⟨⟨TX6, 12, rfl⟩, am_mem 295 (by decide +kernel) rfl, am_mem 297 (by decide +kernel) rfl, am_mem 0 (by decide +kernel) rfl, am_mem 52 (by decide +kernel) rfl, am_mem 298 (by decide +kernel) rfl, by decide +kernel, by decide +kernel, by decide +kernel⟩
theorem cv_X6_78 : aCV RX6 78 yX4_begin 3 mX4_begin 2 := ⟨⟨TX4, 2, rfl⟩, am_mem 299 (by decide +kernel) rfl, am_mem 300 (by decide +kernel) rfl, am_mem 301 (by decide +kernel) rfl, am_mem 58 (by decide +kernel) rfl, am_mem 302 (by decide +kernel) rfl, by decide +kernel, by decide +kernel, by decide +kernel⟩
theorem cv_X6_82 : aCV RX6 82 yX4_isThere 3 mX4_isThere 0 := ⟨⟨TX4, 2, rfl⟩, am_mem 311 (by decide +kernel) rfl, am_mem 312 (by decide +kernel) rfl, am_mem 313 (by decide +kernel) rfl, am_mem 58 (by decide +kernel) rfl, am_mem 314 (by decide +kernel) rfl, by decide +kernel, by decide +kernel, by decide +kernel⟩
theorem cv_X6_86 : aCV RX6 86 yX4_reaches 3 mX4_reaches 1 := ⟨⟨TX4, 2, rfl⟩, am_mem 315 (by decide +kernel) rfl, am_mem 316 (by decide +kernel) rfl, am_mem 317 (by decide +kernel) rfl, am_mem 58 (by decide +kernel) rfl, am_mem 318 (by decide +kernel) rfl, by decide +kernel, by decide +kernel, by decide +kernel⟩
theorem cv_X6_95 : aCV RX6 95 yX4_holds 3 mX4_holds 2 := ⟨⟨TX4, 2, rfl⟩, am_mem 331 (by decide +kernel) rfl, am_mem 332 (by decide +kernel) rfl, am_mem 333 (by decide +kernel) rfl, am_mem 58 (by decide +kernel) rfl, am_mem 334 (by decide +kernel) rfl, by decide +kernel, by decide +kernel, by decide +kernel⟩
theorem cv_X7_103 : aCV RX7 103 yX7_takesQuestion 6 mX7_takesQuestion 1 := ⟨⟨TX7, 21, rfl⟩, am_mem 968 (by decide +kernel) rfl, am_mem 970 (by decide +kernel) rfl, am_mem 26 (by decide +kernel) rfl, am_mem 60 (by decide +kernel) rfl, am_mem 971 (by decide +kernel) rfl, by decide +kernel, by decide +kernel, by decide +kernel⟩
theorem cv_X7_106 : aCV RX7 106 yX7_takesCard 6 mX7_takesCard 1 := ⟨⟨TX7, 21, rfl⟩, am_mem 976 (by decide +kernel) rfl, am_mem 978 (by decide +kernel) rfl, am_mem 28 (by decide +kernel) rfl, am_mem 60 (by decide +kernel) rfl, am_mem 979 (by decide +kernel) rfl, by decide +kernel, by decide +kernel, by decide +kernel⟩
theorem cv_X7_109 : aCV RX7 109 yX7_reads 6 mX7_reads 1 := ⟨⟨TX7, 21, rfl⟩, am_mem 958 (by decide +kernel) rfl, am_mem 960 (by decide +kernel) rfl, am_mem 24 (by decide +kernel) rfl, am_mem 60 (by decide +kernel) rfl, am_mem 961 (by decide +kernel) rfl, by decide +kernel, by decide +kernel, by decide +kernel⟩
theorem cv_X7_120 : aCV RX7 120 yX7_means 6 mX7_means 1 := ⟨⟨TX7, 21, rfl⟩, am_mem 1002 (by decide +kernel) rfl, am_mem 1004 (by decide +kernel) rfl, am_mem 31 (by decide +kernel) rfl, am_mem 60 (by decide +kernel) rfl, am_mem 1005 (by decide +kernel) rfl, by decide +kernel, by decide +kernel, by decide +kernel⟩
theorem cv_X7_123 : aCV RX7 123 yX7_suits 6 mX7_suits 4 := ⟨⟨TX7, 21, rfl⟩, am_mem 1029 (by decide +kernel) rfl, am_mem 1031 (by decide +kernel) rfl, am_mem 35 (by decide +kernel) rfl, am_mem 60 (by decide +kernel) rfl, am_mem 1032 (by decide +kernel) rfl, by decide +kernel, by decide +kernel, by decide +kernel⟩
theorem cv_X7_126 : aCV RX7 126 yX7_answers 6 mX7_answers 1 := ⟨⟨TX7, 21, rfl⟩, am_mem 1006 (by decide +kernel) rfl, am_mem 1008 (by decide +kernel) rfl, am_mem 32 (by decide +kernel) rfl, am_mem 60 (by decide +kernel) rfl, am_mem 1009 (by decide +kernel) rfl, by decide +kernel, by decide +kernel, by decide +kernel⟩
theorem cv_X7_129 : aCV RX7 129 yX7_isCard 6 mX7_isCard 1 := ⟨⟨TX7, 21, rfl⟩, am_mem 994 (by decide +kernel) rfl, am_mem 996 (by decide +kernel) rfl, am_mem 29 (by decide +kernel) rfl, am_mem 60 (by decide +kernel) rfl, am_mem 997 (by decide +kernel) rfl, by decide +kernel, by decide +kernel, by decide +kernel⟩
theorem cv_X7_132 : aCV RX7 132 yX7_toldCard 6 mX7_toldCard 2 := ⟨⟨TX7, 21, rfl⟩, am_mem 998 (by decide +kernel) rfl, am_mem 1000 (by decide +kernel) rfl, am_mem 30 (by decide +kernel) rfl, am_mem 60 (by decide +kernel) rfl, am_mem 1001 (by decide +kernel) rfl, by decide +kernel, by decide +kernel, by decide +kernel⟩
theorem cv_X7_136 : aCV RX7 136 yX7_isQuestion 6 mX7_isQuestion 1 := ⟨⟨TX7, 21, rfl⟩, am_mem 1014 (by decide +kernel) rfl, am_mem 1016 (by decide +kernel) rfl, am_mem 33 (by decide +kernel) rfl, am_mem 60 (by decide +kernel) rfl, am_mem 1017 (by decide +kernel) rfl, by decide +kernel, by decide +kernel, by decide +kernel⟩
theorem cv_X7_139 : aCV RX7 139 yX7_isFit 6 mX7_isFit 2 := ⟨⟨TX7, 21, rfl⟩, am_mem 1025 (by decide +kernel) rfl, am_mem 1027 (by decide +kernel) rfl, am_mem 34 (by decide +kernel) rfl, am_mem 60 (by decide +kernel) rfl, am_mem 1028 (by decide +kernel) rfl, by decide +kernel, by decide +kernel, by decide +kernel⟩
theorem cv_X7_142 : aCV RX7 142 yX7_puts 6 mX7_puts 2 := ⟨⟨TX7, 21, rfl⟩, am_mem 1037 (by decide +kernel) rfl, am_mem 1039 (by decide +kernel) rfl, am_mem 36 (by decide +kernel) rfl, am_mem 60 (by decide +kernel) rfl, am_mem 1040 (by decide +kernel) rfl, by decide +kernel, by decide +kernel, by decide +kernel⟩
theorem cv_X7_147 : aCV RX7 147 yX7_isFree 6 mX7_isFree 1 := ⟨⟨TX7, 21, rfl⟩, am_mem 1058 (by decide +kernel) rfl, am_mem 1060 (by decide +kernel) rfl, am_mem 37 (by decide +kernel) rfl, am_mem 60 (by decide +kernel) rfl, am_mem 1061 (by decide +kernel) rfl, by decide +kernel, by decide +kernel, by decide +kernel⟩
theorem cv_X7_150 : aCV RX7 150 yX7_isFreeCard 6 mX7_isFreeCard 1 := ⟨⟨TX7, 21, rfl⟩, am_mem 1062 (by decide +kernel) rfl, am_mem 1064 (by decide +kernel) rfl, am_mem 38 (by decide +kernel) rfl, am_mem 60 (by decide +kernel) rfl, am_mem 1065 (by decide +kernel) rfl, by decide +kernel, by decide +kernel, by decide +kernel⟩
theorem cv_X7_153 : aCV RX7 153 yX7_takesIt 6 mX7_takesIt 2 := ⟨⟨TX7, 21, rfl⟩, am_mem 1066 (by decide +kernel) rfl, am_mem 1068 (by decide +kernel) rfl, am_mem 39 (by decide +kernel) rfl, am_mem 60 (by decide +kernel) rfl, am_mem 1069 (by decide +kernel) rfl, by decide +kernel, by decide +kernel, by decide +kernel⟩
theorem cv_X7_157 : aCV RX7 157 yX7_stands 6 mX7_stands 1 := ⟨⟨TX7, 21, rfl⟩, am_mem 1070 (by decide +kernel) rfl, am_mem 1072 (by decide +kernel) rfl, am_mem 40 (by decide +kernel) rfl, am_mem 60 (by decide +kernel) rfl, am_mem 1073 (by decide +kernel) rfl, by decide +kernel, by decide +kernel, by decide +kernel⟩
theorem cv_X7_160 : aCV RX7 160 yX7_standing 6 mX7_standing 1 := ⟨⟨TX7, 21, rfl⟩, am_mem 1086 (by decide +kernel) rfl, am_mem 1088 (by decide +kernel) rfl, am_mem 41 (by decide +kernel) rfl, am_mem 60 (by decide +kernel) rfl, am_mem 1089 (by decide +kernel) rfl, by decide +kernel, by decide +kernel, by decide +kernel⟩
theorem cv_X7_168 : aCV RX7 168 yX7_counts 6 mX7_counts 1 := ⟨⟨TX7, 21, rfl⟩, am_mem 1107 (by decide +kernel) rfl, am_mem 1109 (by decide +kernel) rfl, am_mem 43 (by decide +kernel) rfl, am_mem 60 (by decide +kernel) rfl, am_mem 1110 (by decide +kernel) rfl, by decide +kernel, by decide +kernel, by decide +kernel⟩
theorem cv_X7_172 : aCV RX7 172 yX7_mayMatch 6 mX7_mayMatch 2 := ⟨⟨TX7, 21, rfl⟩, am_mem 1111 (by decide +kernel) rfl, am_mem 1113 (by decide +kernel) rfl, am_mem 44 (by decide +kernel) rfl, am_mem 60 (by decide +kernel) rfl, am_mem 1114 (by decide +kernel) rfl, by decide +kernel, by decide +kernel, by decide +kernel⟩
theorem cv_X7_178 : aCV RX7 178 yX7_row 6 mX7_row 2 := ⟨⟨TX7, 21, rfl⟩, am_mem 1119 (by decide +kernel) rfl, am_mem 904 (by decide +kernel) rfl, am_mem 905 (by decide +kernel) rfl, am_mem 60 (by decide +kernel) rfl, am_mem 906 (by decide +kernel) rfl, by decide +kernel, by decide +kernel, by decide +kernel⟩
theorem cv_X7_181 : aCV RX7 181 yX7_layMatchings 6 mX7_layMatchings 1 := ⟨⟨TX7, 21, rfl⟩, am_mem 1103 (by decide +kernel) rfl, am_mem 1105 (by decide +kernel) rfl, am_mem 42 (by decide +kernel) rfl, am_mem 60 (by decide +kernel) rfl, am_mem 1106 (by decide +kernel) rfl, by decide +kernel, by decide +kernel, by decide +kernel⟩
theorem cv_X7_185 : aCV RX7 185 yX7_laid 6 mX7_laid 1 := ⟨⟨TX7, 21, rfl⟩, am_mem 1115 (by decide +kernel) rfl, am_mem 1117 (by decide +kernel) rfl, am_mem 45 (by decide +kernel) rfl, am_mem 60 (by decide +kernel) rfl, am_mem 1118 (by decide +kernel) rfl, by decide +kernel, by decide +kernel, by decide +kernel⟩
theorem cv_X7_191 : aCV RX7 191 yX7_manyFit 6 mX7_manyFit 3 := ⟨⟨TX7, 21, rfl⟩, am_mem 1156 (by decide +kernel) rfl, am_mem 1158 (by decide +kernel) rfl, am_mem 46 (by decide +kernel) rfl, am_mem 60 (by decide +kernel) rfl, am_mem 1159 (by decide +kernel) rfl, by decide +kernel, by decide +kernel, by decide +kernel⟩
theorem cv_X7_198 : aCV RX7 198 yX7_fits 6 mX7_fits 1 := ⟨⟨TX7, 21, rfl⟩, am_mem 1167 (by decide +kernel) rfl, am_mem 1051 (by decide +kernel) rfl, am_mem 1052 (by decide +kernel) rfl, am_mem 60 (by decide +kernel) rfl, am_mem 1053 (by decide +kernel) rfl, by decide +kernel, by decide +kernel, by decide +kernel⟩
theorem cv_X7_201 : aCV RX7 201 yX7_manyThere 6 mX7_manyThere 3 := ⟨⟨TX7, 21, rfl⟩, am_mem 1180 (by decide +kernel) rfl, am_mem 1182 (by decide +kernel) rfl, am_mem 47 (by decide +kernel) rfl, am_mem 60 (by decide +kernel) rfl, am_mem 1183 (by decide +kernel) rfl, by decide +kernel, by decide +kernel, by decide +kernel⟩
theorem cv_X7_204 : aCV RX7 204 yX7_manyHere 6 mX7_manyHere 2 := ⟨⟨TX7, 21, rfl⟩, am_mem 1184 (by decide +kernel) rfl, am_mem 1186 (by decide +kernel) rfl, am_mem 48 (by decide +kernel) rfl, am_mem 60 (by decide +kernel) rfl, am_mem 1187 (by decide +kernel) rfl, by decide +kernel, by decide +kernel, by decide +kernel⟩
theorem cv_X7_210 : aCV RX7 210 yX7_lying 6 mX7_lying 2 := ⟨⟨TX7, 21, rfl⟩, am_mem 1195 (by decide +kernel) rfl, am_mem 1197 (by decide +kernel) rfl, am_mem 49 (by decide +kernel) rfl, am_mem 60 (by decide +kernel) rfl, am_mem 1198 (by decide +kernel) rfl, by decide +kernel, by decide +kernel, by decide +kernel⟩
theorem cv_X7_225 : aCV RX7 225 yX7_counted 6 mX7_counted 1 := ⟨⟨TX7, 21, rfl⟩, am_mem 1233 (by decide +kernel) rfl, am_mem 1235 (by decide +kernel) rfl, am_mem 50 (by decide +kernel) rfl, am_mem 60 (by decide +kernel) rfl, am_mem 1236 (by decide +kernel) rfl, by decide +kernel, by decide +kernel, by decide +kernel⟩
theorem cv_X7_76 : aCV RX7 76 yX7_found 6 mX7_found 1 := ⟨⟨TX7, 21, rfl⟩, am_mem 914 (by decide +kernel) rfl, am_mem 916 (by decide +kernel) rfl, am_mem 22 (by decide +kernel) rfl, am_mem 60 (by decide +kernel) rfl, am_mem 917 (by decide +kernel) rfl, by decide +kernel, by decide +kernel, by decide +kernel⟩
theorem cv_X7_80 : aCV RX7 80 yX7_tell 6 mX7_tell 1 := ⟨⟨TX7, 21, rfl⟩, am_mem 922 (by decide +kernel) rfl, am_mem 924 (by decide +kernel) rfl, am_mem 23 (by decide +kernel) rfl, am_mem 60 (by decide +kernel) rfl, am_mem 925 (by decide +kernel) rfl, by decide +kernel, by decide +kernel, by decide +kernel⟩
theorem cv_X7_89 : aCV RX7 89 yX7_byteAt 6 mX7_byteAt 1 := ⟨⟨TX7, 21, rfl⟩, am_mem 964 (by decide +kernel) rfl, am_mem 966 (by decide +kernel) rfl, am_mem 25 (by decide +kernel) rfl, am_mem 60 (by decide +kernel) rfl, am_mem 967 (by decide +kernel) rfl, by decide +kernel, by decide +kernel, by decide +kernel⟩
theorem cv_X7_95 : aCV RX7 95 yX7_takes 6 mX7_takes 4 := ⟨⟨TX7, 21, rfl⟩, am_mem 972 (by decide +kernel) rfl, am_mem 974 (by decide +kernel) rfl, am_mem 27 (by decide +kernel) rfl, am_mem 60 (by decide +kernel) rfl, am_mem 975 (by decide +kernel) rfl, by decide +kernel, by decide +kernel, by decide +kernel⟩
theorem cx_X1_104 : aCS RX1 104 yX0_meaning mX0_meaning 3 := ⟨am_mem 402 (by decide +kernel) rfl, am_mem 403 (by decide +kernel) rfl, am_mem 62 (by decide +kernel) rfl, am_mem 404 (by decide +kernel) rfl, by decide +kernel, by decide +kernel, by decide +kernel⟩
theorem cx_X1_111 : aCS RX1 111 yX0_isA mX0_isA 2 := ⟨am_mem 436 (by decide +kernel) rfl, am_mem 426 (by decide +kernel) rfl, am_mem 62 (by decide +kernel) rfl, am_mem 427 (by decide +kernel) rfl, by decide +kernel, by decide +kernel, by decide +kernel⟩
theorem cx_X1_140 : aCS RX1 140 yJ6_bitCount_0f7a4 mJ6_bitCount_0f7a4 1 := ⟨am_mem 721 (by decide +kernel) rfl, am_mem 567 (by decide +kernel) rfl, am_mem 63 (by decide +kernel) rfl, am_mem 568 (by decide +kernel) rfl, by decide +kernel, by decide +kernel, by decide +kernel⟩
theorem cx_X1_151 : aCS RX1 151 yX1_mostStaying mX1_mostStaying 4 := ⟨am_mem 747 (by decide +kernel) rfl, am_mem 748 (by decide +kernel) rfl, am_mem 55 (by decide +kernel) rfl, am_mem 749 (by decide +kernel) rfl, by decide +kernel, by decide +kernel, by decide +kernel⟩
theorem cx_X1_52 : aCS RX1 52 yX1_pastBlanks mX1_pastBlanks 2 := ⟨am_mem 361 (by decide +kernel) rfl, am_mem 362 (by decide +kernel) rfl, am_mem 55 (by decide +kernel) rfl, am_mem 363 (by decide +kernel) rfl, by decide +kernel, by decide +kernel, by decide +kernel⟩
theorem cx_X1_69 : aCS RX1 69 yX0_ofLetter mX0_ofLetter 1 := ⟨am_mem 377 (by decide +kernel) rfl, am_mem 378 (by decide +kernel) rfl, am_mem 62 (by decide +kernel) rfl, am_mem 379 (by decide +kernel) rfl, by decide +kernel, by decide +kernel, by decide +kernel⟩
theorem cx_X1_75 : aCS RX1 75 yX1_figure mX1_figure 4 := ⟨am_mem 369 (by decide +kernel) rfl, am_mem 370 (by decide +kernel) rfl, am_mem 55 (by decide +kernel) rfl, am_mem 371 (by decide +kernel) rfl, by decide +kernel, by decide +kernel, by decide +kernel⟩
theorem cx_X2_55 : aCS RX2 55 yJ7_fill_53178 mJ7_fill_53178 2 := ⟨am_mem 552 (by decide +kernel) rfl, am_mem 191 (by decide +kernel) rfl, am_mem 57 (by decide +kernel) rfl, am_mem 192 (by decide +kernel) rfl, by decide +kernel, by decide +kernel, by decide +kernel⟩
theorem cx_X2_73 : aCS RX2 73 yJ6_bitCount_0f7a4 mJ6_bitCount_0f7a4 1 := ⟨am_mem 566 (by decide +kernel) rfl, am_mem 567 (by decide +kernel) rfl, am_mem 63 (by decide +kernel) rfl, am_mem 568 (by decide +kernel) rfl, by decide +kernel, by decide +kernel, by decide +kernel⟩
theorem cx_X3_50 : aCS RX3 50 yJ7_fill_53178 mJ7_fill_53178 2 := ⟨am_mem 674 (by decide +kernel) rfl, am_mem 191 (by decide +kernel) rfl, am_mem 57 (by decide +kernel) rfl, am_mem 192 (by decide +kernel) rfl, by decide +kernel, by decide +kernel, by decide +kernel⟩
theorem cx_X3_59 : aCS RX3 59 yX0_isA mX0_isA 2 := ⟨am_mem 675 (by decide +kernel) rfl, am_mem 426 (by decide +kernel) rfl, am_mem 62 (by decide +kernel) rfl, am_mem 427 (by decide +kernel) rfl, by decide +kernel, by decide +kernel, by decide +kernel⟩
theorem cx_X3_84 : aCS RX3 84 yJ6_bitCount_0f7a4 mJ6_bitCount_0f7a4 1 := ⟨am_mem 697 (by decide +kernel) rfl, am_mem 567 (by decide +kernel) rfl, am_mem 63 (by decide +kernel) rfl, am_mem 568 (by decide +kernel) rfl, by decide +kernel, by decide +kernel, by decide +kernel⟩
theorem cx_X4_25 : aCS RX4 25 yJ7_fill_53178 mJ7_fill_53178 2 := ⟨am_mem 303 (by decide +kernel) rfl, am_mem 191 (by decide +kernel) rfl, am_mem 57 (by decide +kernel) rfl, am_mem 192 (by decide +kernel) rfl, by decide +kernel, by decide +kernel, by decide +kernel⟩
theorem cx_X5_34 : aCS RX5 34 yJ7_fill_53178 mJ7_fill_53178 2 := ⟨am_mem 190 (by decide +kernel) rfl, am_mem 191 (by decide +kernel) rfl, am_mem 57 (by decide +kernel) rfl, am_mem 192 (by decide +kernel) rfl, by decide +kernel, by decide +kernel, by decide +kernel⟩
theorem cx_X6_105 : aCS RX6 105 yX6_isText mX6_isText 1 := ⟨am_mem 346 (by decide +kernel) rfl, am_mem 347 (by decide +kernel) rfl, am_mem 52 (by decide +kernel) rfl, am_mem 348 (by decide +kernel) rfl, by decide +kernel, by decide +kernel, by decide +kernel⟩
theorem cx_X6_134 : aCS RX6 134 yX0_isA mX0_isA 2 := ⟨am_mem 425 (by decide +kernel) rfl, am_mem 426 (by decide +kernel) rfl, am_mem 62 (by decide +kernel) rfl, am_mem 427 (by decide +kernel) rfl, by decide +kernel, by decide +kernel, by decide +kernel⟩
theorem cx_X6_182 : aCS RX6 182 yX6_isPlaceKept mX6_isPlaceKept 1 := ⟨am_mem 521 (by decide +kernel) rfl, am_mem 522 (by decide +kernel) rfl, am_mem 52 (by decide +kernel) rfl, am_mem 523 (by decide +kernel) rfl, by decide +kernel, by decide +kernel, by decide +kernel⟩
theorem cx_X6_261 : aCS RX6 261 yJ6_bitCount_0f7a4 mJ6_bitCount_0f7a4 1 := ⟨am_mem 738 (by decide +kernel) rfl, am_mem 567 (by decide +kernel) rfl, am_mem 63 (by decide +kernel) rfl, am_mem 568 (by decide +kernel) rfl, by decide +kernel, by decide +kernel, by decide +kernel⟩
theorem cx_X6_289 : aCS RX6 289 yX6_thereAmong mX6_thereAmong 1 := ⟨am_mem 798 (by decide +kernel) rfl, am_mem 799 (by decide +kernel) rfl, am_mem 52 (by decide +kernel) rfl, am_mem 800 (by decide +kernel) rfl, by decide +kernel, by decide +kernel, by decide +kernel⟩
theorem cx_X6_308 : aCS RX6 308 yX6_greatestShared mX6_greatestShared 2 := ⟨am_mem 645 (by decide +kernel) rfl, am_mem 646 (by decide +kernel) rfl, am_mem 52 (by decide +kernel) rfl, am_mem 647 (by decide +kernel) rfl, by decide +kernel, by decide +kernel, by decide +kernel⟩
theorem cx_X6_70 : aCS RX6 70 yX6_isRow mX6_isRow 1 := ⟨am_mem 292 (by decide +kernel) rfl, am_mem 293 (by decide +kernel) rfl, am_mem 52 (by decide +kernel) rfl, am_mem 294 (by decide +kernel) rfl, by decide +kernel, by decide +kernel, by decide +kernel⟩
theorem cx_X7_112 : aCS RX7 112 yX7_copies mX7_copies 4 := ⟨am_mem 987 (by decide +kernel) rfl, am_mem 988 (by decide +kernel) rfl, am_mem 60 (by decide +kernel) rfl, am_mem 989 (by decide +kernel) rfl, by decide +kernel, by decide +kernel, by decide +kernel⟩
theorem cx_X7_116 : aCS RX7 116 yX7_isOf mX7_isOf 2 := ⟨am_mem 1022 (by decide +kernel) rfl, am_mem 1023 (by decide +kernel) rfl, am_mem 60 (by decide +kernel) rfl, am_mem 1024 (by decide +kernel) rfl, by decide +kernel, by decide +kernel, by decide +kernel⟩
theorem cx_X7_195 : aCS RX7 195 yX7_isOne mX7_isOne 1 := ⟨am_mem 1164 (by decide +kernel) rfl, am_mem 1165 (by decide +kernel) rfl, am_mem 60 (by decide +kernel) rfl, am_mem 1166 (by decide +kernel) rfl, by decide +kernel, by decide +kernel, by decide +kernel⟩
theorem cx_X7_207 : aCS RX7 207 yX7_lesser mX7_lesser 2 := ⟨am_mem 1188 (by decide +kernel) rfl, am_mem 1189 (by decide +kernel) rfl, am_mem 60 (by decide +kernel) rfl, am_mem 1190 (by decide +kernel) rfl, by decide +kernel, by decide +kernel, by decide +kernel⟩
theorem cx_X7_66 : aCS RX7 66 yX7_in mX7_in 3 := ⟨am_mem 911 (by decide +kernel) rfl, am_mem 912 (by decide +kernel) rfl, am_mem 60 (by decide +kernel) rfl, am_mem 913 (by decide +kernel) rfl, by decide +kernel, by decide +kernel, by decide +kernel⟩
theorem cx_X7_72 : aCS RX7 72 yX7_isRow mX7_isRow 1 := ⟨am_mem 907 (by decide +kernel) rfl, am_mem 908 (by decide +kernel) rfl, am_mem 60 (by decide +kernel) rfl, am_mem 909 (by decide +kernel) rfl, by decide +kernel, by decide +kernel, by decide +kernel⟩
theorem cx_X7_83 : aCS RX7 83 yX7_isText mX7_isText 1 := ⟨am_mem 946 (by decide +kernel) rfl, am_mem 947 (by decide +kernel) rfl, am_mem 60 (by decide +kernel) rfl, am_mem 948 (by decide +kernel) rfl, by decide +kernel, by decide +kernel, by decide +kernel⟩
theorem cx_X7_92 : aCS RX7 92 yX7_kindOf mX7_kindOf 1 := ⟨am_mem 980 (by decide +kernel) rfl, am_mem 981 (by decide +kernel) rfl, am_mem 60 (by decide +kernel) rfl, am_mem 982 (by decide +kernel) rfl, by decide +kernel, by decide +kernel, by decide +kernel⟩
theorem fl_X1_118 : aFl RX1 118 4 2 := ⟨RX5, TX5, 7, rfl, by decide, inX5g, Or.inr ⟨"LostQuestions", am_memN 160 (by decide +kernel) rfl⟩⟩
theorem fl_X1_15 : aFl RX1 15 0 1 := ⟨RX1, TX1, 9, rfl, by decide, inX1g, Or.inl (am_mem 196 (by decide +kernel) rfl)⟩
theorem fl_X1_175 : aFl RX1 175 4 6 := ⟨RX5, TX5, 7, rfl, by decide, inX5g, Or.inr ⟨"LostQuestions", am_memN 170 (by decide +kernel) rfl⟩⟩
theorem fl_X1_178 : aFl RX1 178 4 4 := ⟨RX5, TX5, 7, rfl, by decide, inX5g, Or.inr ⟨"LostQuestions", am_memN 166 (by decide +kernel) rfl⟩⟩
theorem fl_X1_18 : aFl RX1 18 0 2 := ⟨RX1, TX1, 9, rfl, by decide, inX1g, Or.inl (am_mem 197 (by decide +kernel) rfl)⟩
theorem fl_X1_21 : aFl RX1 21 0 3 := ⟨RX1, TX1, 9, rfl, by decide, inX1g, Or.inl (am_mem 198 (by decide +kernel) rfl)⟩
theorem fl_X1_24 : aFl RX1 24 0 4 := ⟨RX1, TX1, 9, rfl, by decide, inX1g, Or.inl (am_mem 199 (by decide +kernel) rfl)⟩
theorem fl_X1_27 : aFl RX1 27 0 5 := ⟨RX1, TX1, 9, rfl, by decide, inX1g, Or.inl (am_mem 200 (by decide +kernel) rfl)⟩
theorem fl_X1_33 : aFl RX1 33 0 6 := ⟨RX1, TX1, 9, rfl, by decide, inX1g, Or.inl (am_mem 202 (by decide +kernel) rfl)⟩
theorem fl_X1_37 : aFl RX1 37 0 7 := ⟨RX1, TX1, 9, rfl, by decide, inX1g, Or.inl (am_mem 204 (by decide +kernel) rfl)⟩
theorem fl_X1_41 : aFl RX1 41 0 8 := ⟨RX1, TX1, 9, rfl, by decide, inX1g, Or.inl (am_mem 208 (by decide +kernel) rfl)⟩
theorem fl_X1_47 : aFl RX1 47 3 1 := ⟨RX4, TX4, 2, rfl, by decide, inX4g, Or.inr ⟨"LostQuestions", am_memN 243 (by decide +kernel) rfl⟩⟩
theorem fl_X1_60 : aFl RX1 60 3 0 := ⟨RX4, TX4, 2, rfl, by decide, inX4g, Or.inr ⟨"LostQuestions", am_memN 240 (by decide +kernel) rfl⟩⟩
theorem fl_X1_79 : aFl RX1 79 4 0 := ⟨RX5, TX5, 7, rfl, by decide, inX5g, Or.inr ⟨"LostQuestions", am_memN 154 (by decide +kernel) rfl⟩⟩
theorem fl_X1_82 : aFl RX1 82 4 1 := ⟨RX5, TX5, 7, rfl, by decide, inX5g, Or.inr ⟨"LostQuestions", am_memN 157 (by decide +kernel) rfl⟩⟩
theorem fl_X1_9 : aFl RX1 9 0 0 := ⟨RX1, TX1, 9, rfl, by decide, inX1g, Or.inl (am_mem 193 (by decide +kernel) rfl)⟩
theorem fl_X1_94 : aFl RX1 94 4 3 := ⟨RX5, TX5, 7, rfl, by decide, inX5g, Or.inr ⟨"LostQuestions", am_memN 163 (by decide +kernel) rfl⟩⟩
theorem fl_X2_102 : aFl RX2 102 0 5 := ⟨RX1, TX1, 9, rfl, by decide, inX1g, Or.inr ⟨"LostQuestions", am_memN 201 (by decide +kernel) rfl⟩⟩
theorem fl_X2_15 : aFl RX2 15 1 1 := ⟨RX2, TX2, 8, rfl, by decide, inX2g, Or.inl (am_mem 83 (by decide +kernel) rfl)⟩
theorem fl_X2_18 : aFl RX2 18 1 2 := ⟨RX2, TX2, 8, rfl, by decide, inX2g, Or.inl (am_mem 84 (by decide +kernel) rfl)⟩
theorem fl_X2_21 : aFl RX2 21 1 3 := ⟨RX2, TX2, 8, rfl, by decide, inX2g, Or.inl (am_mem 85 (by decide +kernel) rfl)⟩
theorem fl_X2_25 : aFl RX2 25 1 4 := ⟨RX2, TX2, 8, rfl, by decide, inX2g, Or.inl (am_mem 86 (by decide +kernel) rfl)⟩
theorem fl_X2_28 : aFl RX2 28 1 5 := ⟨RX2, TX2, 8, rfl, by decide, inX2g, Or.inl (am_mem 87 (by decide +kernel) rfl)⟩
theorem fl_X2_31 : aFl RX2 31 1 6 := ⟨RX2, TX2, 8, rfl, by decide, inX2g, Or.inl (am_mem 88 (by decide +kernel) rfl)⟩
theorem fl_X2_34 : aFl RX2 34 1 7 := ⟨RX2, TX2, 8, rfl, by decide, inX2g, Or.inl (am_mem 90 (by decide +kernel) rfl)⟩
theorem fl_X2_48 : aFl RX2 48 0 8 := ⟨RX1, TX1, 9, rfl, by decide, inX1g, Or.inr ⟨"LostQuestions", am_memN 209 (by decide +kernel) rfl⟩⟩
theorem fl_X2_51 : aFl RX2 51 0 7 := ⟨RX1, TX1, 9, rfl, by decide, inX1g, Or.inr ⟨"LostQuestions", am_memN 206 (by decide +kernel) rfl⟩⟩
theorem fl_X2_9 : aFl RX2 9 1 0 := ⟨RX2, TX2, 8, rfl, by decide, inX2g, Or.inl (am_mem 82 (by decide +kernel) rfl)⟩
theorem fl_X3_15 : aFl RX3 15 2 1 := ⟨RX3, TX3, 7, rfl, by decide, inX3g, Or.inl (am_mem 117 (by decide +kernel) rfl)⟩
theorem fl_X3_18 : aFl RX3 18 2 2 := ⟨RX3, TX3, 7, rfl, by decide, inX3g, Or.inl (am_mem 118 (by decide +kernel) rfl)⟩
theorem fl_X3_31 : aFl RX3 31 2 6 := ⟨RX3, TX3, 7, rfl, by decide, inX3g, Or.inl (am_mem 125 (by decide +kernel) rfl)⟩
theorem fl_X3_41 : aFl RX3 41 0 7 := ⟨RX1, TX1, 9, rfl, by decide, inX1g, Or.inr ⟨"LostQuestions", am_memN 205 (by decide +kernel) rfl⟩⟩
theorem fl_X3_56 : aFl RX3 56 0 0 := ⟨RX1, TX1, 9, rfl, by decide, inX1g, Or.inr ⟨"LostQuestions", am_memN 194 (by decide +kernel) rfl⟩⟩
theorem fl_X3_74 : aFl RX3 74 0 8 := ⟨RX1, TX1, 9, rfl, by decide, inX1g, Or.inr ⟨"LostQuestions", am_memN 210 (by decide +kernel) rfl⟩⟩
theorem fl_X3_9 : aFl RX3 9 2 0 := ⟨RX3, TX3, 7, rfl, by decide, inX3g, Or.inl (am_mem 116 (by decide +kernel) rfl)⟩
theorem fl_X4_21 : aFl RX4 21 3 0 := ⟨RX4, TX4, 2, rfl, by decide, inX4g, Or.inl (am_mem 239 (by decide +kernel) rfl)⟩
theorem fl_X4_9 : aFl RX4 9 3 1 := ⟨RX4, TX4, 2, rfl, by decide, inX4g, Or.inl (am_mem 242 (by decide +kernel) rfl)⟩
theorem fl_X5_15 : aFl RX5 15 4 1 := ⟨RX5, TX5, 7, rfl, by decide, inX5g, Or.inl (am_mem 156 (by decide +kernel) rfl)⟩
theorem fl_X5_18 : aFl RX5 18 4 2 := ⟨RX5, TX5, 7, rfl, by decide, inX5g, Or.inl (am_mem 159 (by decide +kernel) rfl)⟩
theorem fl_X5_21 : aFl RX5 21 4 3 := ⟨RX5, TX5, 7, rfl, by decide, inX5g, Or.inl (am_mem 162 (by decide +kernel) rfl)⟩
theorem fl_X5_24 : aFl RX5 24 4 4 := ⟨RX5, TX5, 7, rfl, by decide, inX5g, Or.inl (am_mem 165 (by decide +kernel) rfl)⟩
theorem fl_X5_27 : aFl RX5 27 4 5 := ⟨RX5, TX5, 7, rfl, by decide, inX5g, Or.inl (am_mem 167 (by decide +kernel) rfl)⟩
theorem fl_X5_30 : aFl RX5 30 4 6 := ⟨RX5, TX5, 7, rfl, by decide, inX5g, Or.inl (am_mem 168 (by decide +kernel) rfl)⟩
theorem fl_X5_9 : aFl RX5 9 4 0 := ⟨RX5, TX5, 7, rfl, by decide, inX5g, Or.inl (am_mem 153 (by decide +kernel) rfl)⟩
theorem fl_X6_11 : aFl RX6 11 5 0 := ⟨RX6, TX6, 12, rfl, by decide, inX6g, Or.inl (am_mem 251 (by decide +kernel) rfl)⟩
theorem fl_X6_112 : aFl RX6 112 4 6 := ⟨RX5, TX5, 7, rfl, by decide, inX5g, Or.inr ⟨"LostQuestions", am_memN 169 (by decide +kernel) rfl⟩⟩
theorem fl_X6_115 : aFl RX6 115 0 7 := ⟨RX1, TX1, 9, rfl, by decide, inX1g, Or.inr ⟨"LostQuestions", am_memN 207 (by decide +kernel) rfl⟩⟩
theorem fl_X6_131 : aFl RX6 131 0 0 := ⟨RX1, TX1, 9, rfl, by decide, inX1g, Or.inr ⟨"LostQuestions", am_memN 195 (by decide +kernel) rfl⟩⟩
theorem fl_X6_142 : aFl RX6 142 0 6 := ⟨RX1, TX1, 9, rfl, by decide, inX1g, Or.inr ⟨"LostQuestions", am_memN 203 (by decide +kernel) rfl⟩⟩
theorem fl_X6_146 : aFl RX6 146 4 0 := ⟨RX5, TX5, 7, rfl, by decide, inX5g, Or.inr ⟨"LostQuestions", am_memN 155 (by decide +kernel) rfl⟩⟩
theorem fl_X6_149 : aFl RX6 149 4 1 := ⟨RX5, TX5, 7, rfl, by decide, inX5g, Or.inr ⟨"LostQuestions", am_memN 158 (by decide +kernel) rfl⟩⟩
theorem fl_X6_15 : aFl RX6 15 5 1 := ⟨RX6, TX6, 12, rfl, by decide, inX6g, Or.inl (am_mem 252 (by decide +kernel) rfl)⟩
theorem fl_X6_152 : aFl RX6 152 4 2 := ⟨RX5, TX5, 7, rfl, by decide, inX5g, Or.inr ⟨"LostQuestions", am_memN 161 (by decide +kernel) rfl⟩⟩
theorem fl_X6_173 : aFl RX6 173 4 3 := ⟨RX5, TX5, 7, rfl, by decide, inX5g, Or.inr ⟨"LostQuestions", am_memN 164 (by decide +kernel) rfl⟩⟩
theorem fl_X6_197 : aFl RX6 197 1 6 := ⟨RX2, TX2, 8, rfl, by decide, inX2g, Or.inr ⟨"LostQuestions", am_memN 89 (by decide +kernel) rfl⟩⟩
theorem fl_X6_20 : aFl RX6 20 5 2 := ⟨RX6, TX6, 12, rfl, by decide, inX6g, Or.inl (am_mem 253 (by decide +kernel) rfl)⟩
theorem fl_X6_204 : aFl RX6 204 0 8 := ⟨RX1, TX1, 9, rfl, by decide, inX1g, Or.inr ⟨"LostQuestions", am_memN 211 (by decide +kernel) rfl⟩⟩
theorem fl_X6_210 : aFl RX6 210 1 7 := ⟨RX2, TX2, 8, rfl, by decide, inX2g, Or.inr ⟨"LostQuestions", am_memN 91 (by decide +kernel) rfl⟩⟩
theorem fl_X6_234 : aFl RX6 234 2 4 := ⟨RX3, TX3, 7, rfl, by decide, inX3g, Or.inr ⟨"LostQuestions", am_memN 122 (by decide +kernel) rfl⟩⟩
theorem fl_X6_237 : aFl RX6 237 2 3 := ⟨RX3, TX3, 7, rfl, by decide, inX3g, Or.inr ⟨"LostQuestions", am_memN 120 (by decide +kernel) rfl⟩⟩
theorem fl_X6_24 : aFl RX6 24 5 3 := ⟨RX6, TX6, 12, rfl, by decide, inX6g, Or.inl (am_mem 254 (by decide +kernel) rfl)⟩
theorem fl_X6_244 : aFl RX6 244 2 5 := ⟨RX3, TX3, 7, rfl, by decide, inX3g, Or.inr ⟨"LostQuestions", am_memN 124 (by decide +kernel) rfl⟩⟩
theorem fl_X6_31 : aFl RX6 31 5 4 := ⟨RX6, TX6, 12, rfl, by decide, inX6g, Or.inl (am_mem 255 (by decide +kernel) rfl)⟩
theorem fl_X6_38 : aFl RX6 38 5 5 := ⟨RX6, TX6, 12, rfl, by decide, inX6g, Or.inl (am_mem 256 (by decide +kernel) rfl)⟩
theorem fl_X6_45 : aFl RX6 45 5 6 := ⟨RX6, TX6, 12, rfl, by decide, inX6g, Or.inl (am_mem 257 (by decide +kernel) rfl)⟩
theorem fl_X6_49 : aFl RX6 49 5 7 := ⟨RX6, TX6, 12, rfl, by decide, inX6g, Or.inl (am_mem 258 (by decide +kernel) rfl)⟩
theorem fl_X6_52 : aFl RX6 52 5 8 := ⟨RX6, TX6, 12, rfl, by decide, inX6g, Or.inl (am_mem 259 (by decide +kernel) rfl)⟩
theorem fl_X6_56 : aFl RX6 56 5 9 := ⟨RX6, TX6, 12, rfl, by decide, inX6g, Or.inl (am_mem 260 (by decide +kernel) rfl)⟩
theorem fl_X6_60 : aFl RX6 60 5 10 := ⟨RX6, TX6, 12, rfl, by decide, inX6g, Or.inl (am_mem 261 (by decide +kernel) rfl)⟩
theorem fl_X6_63 : aFl RX6 63 5 11 := ⟨RX6, TX6, 12, rfl, by decide, inX6g, Or.inl (am_mem 262 (by decide +kernel) rfl)⟩
theorem fl_X6_89 : aFl RX6 89 3 0 := ⟨RX4, TX4, 2, rfl, by decide, inX4g, Or.inr ⟨"LostQuestions", am_memN 241 (by decide +kernel) rfl⟩⟩
theorem fl_X6_92 : aFl RX6 92 3 1 := ⟨RX4, TX4, 2, rfl, by decide, inX4g, Or.inr ⟨"LostQuestions", am_memN 244 (by decide +kernel) rfl⟩⟩
theorem fl_X7_13 : aFl RX7 13 6 1 := ⟨RX7, TX7, 21, rfl, by decide, inX7g, Or.inl (am_mem 839 (by decide +kernel) rfl)⟩
theorem fl_X7_16 : aFl RX7 16 6 2 := ⟨RX7, TX7, 21, rfl, by decide, inX7g, Or.inl (am_mem 840 (by decide +kernel) rfl)⟩
theorem fl_X7_165 : aFl RX7 165 6 18 := ⟨RX7, TX7, 21, rfl, by decide, inX7g, Or.inl (am_mem 856 (by decide +kernel) rfl)⟩
theorem fl_X7_175 : aFl RX7 175 6 17 := ⟨RX7, TX7, 21, rfl, by decide, inX7g, Or.inl (am_mem 855 (by decide +kernel) rfl)⟩
theorem fl_X7_188 : aFl RX7 188 6 8 := ⟨RX7, TX7, 21, rfl, by decide, inX7g, Or.inl (am_mem 846 (by decide +kernel) rfl)⟩
theorem fl_X7_19 : aFl RX7 19 6 3 := ⟨RX7, TX7, 21, rfl, by decide, inX7g, Or.inl (am_mem 841 (by decide +kernel) rfl)⟩
theorem fl_X7_22 : aFl RX7 22 6 4 := ⟨RX7, TX7, 21, rfl, by decide, inX7g, Or.inl (am_mem 842 (by decide +kernel) rfl)⟩
theorem fl_X7_25 : aFl RX7 25 6 5 := ⟨RX7, TX7, 21, rfl, by decide, inX7g, Or.inl (am_mem 843 (by decide +kernel) rfl)⟩
theorem fl_X7_28 : aFl RX7 28 6 6 := ⟨RX7, TX7, 21, rfl, by decide, inX7g, Or.inl (am_mem 844 (by decide +kernel) rfl)⟩
theorem fl_X7_32 : aFl RX7 32 6 9 := ⟨RX7, TX7, 21, rfl, by decide, inX7g, Or.inl (am_mem 847 (by decide +kernel) rfl)⟩
theorem fl_X7_36 : aFl RX7 36 6 11 := ⟨RX7, TX7, 21, rfl, by decide, inX7g, Or.inl (am_mem 849 (by decide +kernel) rfl)⟩
theorem fl_X7_39 : aFl RX7 39 6 12 := ⟨RX7, TX7, 21, rfl, by decide, inX7g, Or.inl (am_mem 850 (by decide +kernel) rfl)⟩
theorem fl_X7_42 : aFl RX7 42 6 14 := ⟨RX7, TX7, 21, rfl, by decide, inX7g, Or.inl (am_mem 852 (by decide +kernel) rfl)⟩
theorem fl_X7_45 : aFl RX7 45 6 15 := ⟨RX7, TX7, 21, rfl, by decide, inX7g, Or.inl (am_mem 853 (by decide +kernel) rfl)⟩
theorem fl_X7_48 : aFl RX7 48 6 16 := ⟨RX7, TX7, 21, rfl, by decide, inX7g, Or.inl (am_mem 854 (by decide +kernel) rfl)⟩
theorem fl_X7_51 : aFl RX7 51 6 19 := ⟨RX7, TX7, 21, rfl, by decide, inX7g, Or.inl (am_mem 857 (by decide +kernel) rfl)⟩
theorem fl_X7_54 : aFl RX7 54 6 20 := ⟨RX7, TX7, 21, rfl, by decide, inX7g, Or.inl (am_mem 858 (by decide +kernel) rfl)⟩
theorem fl_X7_57 : aFl RX7 57 6 10 := ⟨RX7, TX7, 21, rfl, by decide, inX7g, Or.inl (am_mem 848 (by decide +kernel) rfl)⟩
theorem fl_X7_61 : aFl RX7 61 6 7 := ⟨RX7, TX7, 21, rfl, by decide, inX7g, Or.inl (am_mem 845 (by decide +kernel) rfl)⟩
theorem fl_X7_7 : aFl RX7 7 6 0 := ⟨RX7, TX7, 21, rfl, by decide, inX7g, Or.inl (am_mem 838 (by decide +kernel) rfl)⟩
theorem fl_X7_86 : aFl RX7 86 6 13 := ⟨RX7, TX7, 21, rfl, by decide, inX7g, Or.inl (am_mem 851 (by decide +kernel) rfl)⟩
theorem fp_X1_37 : aFp RX1 37 0 7 .int false := ⟨RX1, TX1, 9, tyX1, rfl, by decide, inX1g, Or.inl (am_mem 204 (by decide +kernel) rfl), tyX1_ok, nmX1, rfl, by decide +kernel, fun h => by cases h⟩
theorem fp_X1_41 : aFp RX1 41 0 8 .int false := ⟨RX1, TX1, 9, tyX1, rfl, by decide, inX1g, Or.inl (am_mem 208 (by decide +kernel) rfl), tyX1_ok, nmX1, rfl, by decide +kernel, fun h => by cases h⟩
theorem fp_X2_21 : aFp RX2 21 1 3 .int false := ⟨RX2, TX2, 8, tyX2, rfl, by decide, inX2g, Or.inl (am_mem 85 (by decide +kernel) rfl), tyX2_ok, nmX2, rfl, by decide +kernel, fun h => by cases h⟩
theorem fp_X2_25 : aFp RX2 25 1 4 .int false := ⟨RX2, TX2, 8, tyX2, rfl, by decide, inX2g, Or.inl (am_mem 86 (by decide +kernel) rfl), tyX2_ok, nmX2, rfl, by decide +kernel, fun h => by cases h⟩
theorem fp_X2_28 : aFp RX2 28 1 5 .int false := ⟨RX2, TX2, 8, tyX2, rfl, by decide, inX2g, Or.inl (am_mem 87 (by decide +kernel) rfl), tyX2_ok, nmX2, rfl, by decide +kernel, fun h => by cases h⟩
theorem fp_X2_31 : aFp RX2 31 1 6 .int false := ⟨RX2, TX2, 8, tyX2, rfl, by decide, inX2g, Or.inl (am_mem 88 (by decide +kernel) rfl), tyX2_ok, nmX2, rfl, by decide +kernel, fun h => by cases h⟩
theorem fp_X2_34 : aFp RX2 34 1 7 .int false := ⟨RX2, TX2, 8, tyX2, rfl, by decide, inX2g, Or.inl (am_mem 90 (by decide +kernel) rfl), tyX2_ok, nmX2, rfl, by decide +kernel, fun h => by cases h⟩
theorem fp_X3_21 : aFp RX3 21 2 3 .int false := ⟨RX3, TX3, 7, tyX3, rfl, by decide, inX3g, Or.inl (am_mem 119 (by decide +kernel) rfl), tyX3_ok, nmX3, rfl, by decide +kernel, fun h => by cases h⟩
theorem fp_X3_25 : aFp RX3 25 2 4 .int false := ⟨RX3, TX3, 7, tyX3, rfl, by decide, inX3g, Or.inl (am_mem 121 (by decide +kernel) rfl), tyX3_ok, nmX3, rfl, by decide +kernel, fun h => by cases h⟩
theorem fp_X3_28 : aFp RX3 28 2 5 .int false := ⟨RX3, TX3, 7, tyX3, rfl, by decide, inX3g, Or.inl (am_mem 123 (by decide +kernel) rfl), tyX3_ok, nmX3, rfl, by decide +kernel, fun h => by cases h⟩
theorem fp_X3_31 : aFp RX3 31 2 6 .int false := ⟨RX3, TX3, 7, tyX3, rfl, by decide, inX3g, Or.inl (am_mem 125 (by decide +kernel) rfl), tyX3_ok, nmX3, rfl, by decide +kernel, fun h => by cases h⟩
theorem fp_X4_9 : aFp RX4 9 3 1 .int false := ⟨RX4, TX4, 2, tyX4, rfl, by decide, inX4g, Or.inl (am_mem 242 (by decide +kernel) rfl), tyX4_ok, nmX4, rfl, by decide +kernel, fun h => by cases h⟩
theorem fp_X5_30 : aFp RX5 30 4 6 .int false := ⟨RX5, TX5, 7, tyX5, rfl, by decide, inX5g, Or.inl (am_mem 168 (by decide +kernel) rfl), tyX5_ok, nmX5, rfl, by decide +kernel, fun h => by cases h⟩
theorem fp_X6_112 : aFp RX6 112 4 6 .int false := ⟨RX5, TX5, 7, tyX5, rfl, by decide, inX5g, Or.inr ⟨⟨"LostQuestions", am_memN 169 (by decide +kernel) rfl⟩, rfl⟩, tyX5_ok, nmX5, rfl, by decide +kernel, fun h => by cases h⟩
theorem fp_X6_45 : aFp RX6 45 5 6 (.object "LostQuestions$Library") false := ⟨RX6, TX6, 12, tyX6, rfl, by decide, inX6g, Or.inl (am_mem 257 (by decide +kernel) rfl), tyX6_ok, nmX6, rfl, by decide +kernel, fun h => by cases h⟩
theorem fp_X6_49 : aFp RX6 49 5 7 (.object "LostQuestions$Library") false := ⟨RX6, TX6, 12, tyX6, rfl, by decide, inX6g, Or.inl (am_mem 258 (by decide +kernel) rfl), tyX6_ok, nmX6, rfl, by decide +kernel, fun h => by cases h⟩
theorem fp_X6_52 : aFp RX6 52 5 8 .int false := ⟨RX6, TX6, 12, tyX6, rfl, by decide, inX6g, Or.inl (am_mem 259 (by decide +kernel) rfl), tyX6_ok, nmX6, rfl, by decide +kernel, fun h => by cases h⟩
theorem fp_X6_56 : aFp RX6 56 5 9 .long false := ⟨RX6, TX6, 12, tyX6, rfl, by decide, inX6g, Or.inl (am_mem 260 (by decide +kernel) rfl), tyX6_ok, nmX6, rfl, by decide +kernel, fun h => by cases h⟩
theorem fp_X6_60 : aFp RX6 60 5 10 .long false := ⟨RX6, TX6, 12, tyX6, rfl, by decide, inX6g, Or.inl (am_mem 261 (by decide +kernel) rfl), tyX6_ok, nmX6, rfl, by decide +kernel, fun h => by cases h⟩
theorem fp_X6_63 : aFp RX6 63 5 11 .int false := ⟨RX6, TX6, 12, tyX6, rfl, by decide, inX6g, Or.inl (am_mem 262 (by decide +kernel) rfl), tyX6_ok, nmX6, rfl, by decide +kernel, fun h => by cases h⟩
theorem fp_X6_92 : aFp RX6 92 3 1 .int false := ⟨RX4, TX4, 2, tyX4, rfl, by decide, inX4g, Or.inr ⟨⟨"LostQuestions", am_memN 244 (by decide +kernel) rfl⟩, rfl⟩, tyX4_ok, nmX4, rfl, by decide +kernel, fun h => by cases h⟩
theorem fp_X7_165 : aFp RX7 165 6 18 .int false := ⟨RX7, TX7, 21, tyX7, rfl, by decide, inX7g, Or.inl (am_mem 856 (by decide +kernel) rfl), tyX7_ok, nmX7, rfl, by decide +kernel, fun h => by cases h⟩
theorem fp_X7_175 : aFp RX7 175 6 17 .int false := ⟨RX7, TX7, 21, tyX7, rfl, by decide, inX7g, Or.inl (am_mem 855 (by decide +kernel) rfl), tyX7_ok, nmX7, rfl, by decide +kernel, fun h => by cases h⟩
theorem fp_X7_188 : aFp RX7 188 6 8 .long false := ⟨RX7, TX7, 21, tyX7, rfl, by decide, inX7g, Or.inl (am_mem 846 (by decide +kernel) rfl), tyX7_ok, nmX7, rfl, by decide +kernel, fun h => by cases h⟩
theorem fp_X7_32 : aFp RX7 32 6 9 .long false := ⟨RX7, TX7, 21, tyX7, rfl, by decide, inX7g, Or.inl (am_mem 847 (by decide +kernel) rfl), tyX7_ok, nmX7, rfl, by decide +kernel, fun h => by cases h⟩
theorem fp_X7_57 : aFp RX7 57 6 10 .int false := ⟨RX7, TX7, 21, tyX7, rfl, by decide, inX7g, Or.inl (am_mem 848 (by decide +kernel) rfl), tyX7_ok, nmX7, rfl, by decide +kernel, fun h => by cases h⟩
theorem fp_X7_61 : aFp RX7 61 6 7 .int false := ⟨RX7, TX7, 21, tyX7, rfl, by decide, inX7g, Or.inl (am_mem 845 (by decide +kernel) rfl), tyX7_ok, nmX7, rfl, by decide +kernel, fun h => by cases h⟩
theorem fp_X7_86 : aFp RX7 86 6 13 .int false := ⟨RX7, TX7, 21, tyX7, rfl, by decide, inX7g, Or.inl (am_mem 851 (by decide +kernel) rfl), tyX7_ok, nmX7, rfl, by decide +kernel, fun h => by cases h⟩
end
section
/-! written by program: J7_fill_53178 J6_bitCount_0f7a4 -/
theorem dJ7_fill_53178_0 : decode cJ7_fill_53178 0 = .ok (.iconst 0, 1) := by decide +kernel
theorem dJ7_fill_53178_1 : decode cJ7_fill_53178 1 = .ok (.istore_n 2, 1) := by decide +kernel
theorem dJ7_fill_53178_2 : decode cJ7_fill_53178 2 = .ok (.aload_n 0, 1) := by decide +kernel
theorem dJ7_fill_53178_3 : decode cJ7_fill_53178 3 = .ok (.arraylength, 1) := by decide +kernel
theorem dJ7_fill_53178_4 : decode cJ7_fill_53178 4 = .ok (.istore_n 3, 1) := by decide +kernel
theorem dJ7_fill_53178_5 : decode cJ7_fill_53178 5 = .ok (.iload_n 2, 1) := by decide +kernel
theorem dJ7_fill_53178_6 : decode cJ7_fill_53178 6 = .ok (.iload_n 3, 1) := by decide +kernel
theorem dJ7_fill_53178_7 : decode cJ7_fill_53178 7 = .ok (.if_icmp .ge 13, 3) := by decide +kernel
theorem dJ7_fill_53178_10 : decode cJ7_fill_53178 10 = .ok (.aload_n 0, 1) := by decide +kernel
theorem dJ7_fill_53178_11 : decode cJ7_fill_53178 11 = .ok (.iload_n 2, 1) := by decide +kernel
theorem dJ7_fill_53178_12 : decode cJ7_fill_53178 12 = .ok (.iload_n 1, 1) := by decide +kernel
theorem dJ7_fill_53178_13 : decode cJ7_fill_53178 13 = .ok (.iastore, 1) := by decide +kernel
theorem dJ7_fill_53178_14 : decode cJ7_fill_53178 14 = .ok (.iinc 2 1, 3) := by decide +kernel
theorem dJ7_fill_53178_17 : decode cJ7_fill_53178 17 = .ok (.goto (-12), 3) := by decide +kernel
theorem dJ7_fill_53178_20 : decode cJ7_fill_53178 20 = .ok (.return_, 1) := by decide +kernel
def F_J7_fill_53178_L5 (a0 : Nat) (a1 : Int32) (v4 : Int32) (K20 : aSt → Option aSt) : Nat → Int32 → aSt → Option aSt
  | 0, _, _ => none
  | fu + 1, l5_2, l5S =>
    if v4 ≤ l5_2 then (K20 l5S) else
    grd (inb l5_2 (SH a0).2) <|
    nm (stI l5S a0 l5_2.toNatClampNeg a1) fun S13 =>
    F_J7_fill_53178_L5 a0 a1 v4 K20 fu (l5_2 + (1 : Int32)) S13
def F_J7_fill_53178 (n : Nat) (S : aSt) (a0 : Nat) (a1 : Int32) : Option aSt :=
nm (Int32.ofNat (SH a0).2) fun v4 =>
jn (fun (x20S : aSt) => (some x20S : Option aSt)) fun K20 =>
F_J7_fill_53178_L5 a0 a1 v4 K20 n (0 : Int32) S
set_option maxHeartbeats 4000000 in
set_option maxRecDepth 100000 in
theorem C_J7_fill_53178 (G : aG) (l : Launch) (n : Nat) (S : aSt) (a0 : Nat) (a1 : Int32) (Sr : aSt) (ha0 : isT a0 7 = true) (hf : F_J7_fill_53178 n S a0 a1 = some Sr) : Ctr G l yJ7_fill_53178 mJ7_fill_53178 (rmM 1) 97 97 S [.ref a0, .int a1] none Sr := by
  refine Ctr.of (by decide) rfl rfl (Nat.le_of_ble_eq_true rfl) [(0, .ref a0), (1, .int a1)] rfl ?_
  unfold F_J7_fill_53178 at hf
  refine Go.iconst (0 : Int32) 1 rfl dJ7_fill_53178_0 ci_0 ?_
  refine Go.istore_n 2 [(2, .int (0 : Int32)), (0, .ref a0), (1, .int a1)] rfl dJ7_fill_53178_1 (by decide) rfl ?_
  refine Go.aload_n 1 3 rfl dJ7_fill_53178_2 rfl ?_
  refine Go.alenI 4 rfl dJ7_fill_53178_3 (isT_lt ha0) (isT_sh ha0) ?_
  obtain ⟨v4, ev4, hf⟩ := f_nm hf
  refine Go.topi v4 ev4 ?_
  refine Go.istore_n 5 [(3, .int v4), (2, .int (0 : Int32)), (0, .ref a0), (1, .int a1)] rfl dJ7_fill_53178_4 (by decide) rfl ?_
  obtain ⟨K20, eK20, hf⟩ := f_jn hf
  have J20 : ∀ (x20S : aSt), K20 x20S = some Sr → GoM G l 1 (TmR G none 97 Sr 0 0) mJ7_fill_53178 20 [] [] x20S := by
    intro x20S hf
    rw [eK20] at hf
    exact Go.vr rfl dJ7_fill_53178_20 hf
  clear eK20
  have L5 : ∀ (fu : Nat) (l5_2 : Int32) (l5S : aSt), F_J7_fill_53178_L5 a0 a1 v4 K20 fu l5_2 l5S = some Sr → GoM G l 1 (TmR G none 97 Sr 0 0) mJ7_fill_53178 5 [(0, .ref a0), (1, .int a1), (2, .int l5_2), (3, .int v4)] [] l5S := by
    intro fu
    induction fu with
    | zero => intro l5_2 l5S hf; rw [F_J7_fill_53178_L5] at hf; cases hf
    | succ fu ih =>
      intro l5_2 l5S hf
      rw [F_J7_fill_53178_L5] at hf
      refine Go.iload_n 2 6 rfl dJ7_fill_53178_5 rfl ?_
      refine Go.iload_n 3 7 rfl dJ7_fill_53178_6 rfl ?_
      refine Go.icmp_ge 20 10 rfl dJ7_fill_53178_7 rfl (fun hc => ?_) (fun hc => ?_)
      · replace hf := f_if hf hc
        exact Go.sub [] [] rfl (J20 l5S hf)
      · replace hf := f_el hf hc
        refine Go.aload_n 0 11 rfl dJ7_fill_53178_10 rfl ?_
        refine Go.iload_n 2 12 rfl dJ7_fill_53178_11 rfl ?_
        refine Go.iload_n 1 13 rfl dJ7_fill_53178_12 rfl ?_
        obtain ⟨g13, hf⟩ := f_grd hf
        obtain ⟨S13, eS13, hf⟩ := f_nm hf
        refine Go.iast 14 rfl dJ7_fill_53178_13 (isT_lt ha0) (isT_sh ha0) g13 (Go.stt S13 eS13 ?_)
        refine Go.inc 2 17 (1 : Int32) [(2, .int (l5_2 + (1 : Int32))), (0, .ref a0), (1, .int a1), (3, .int v4)] rfl dJ7_fill_53178_14 rfl ci_1 (by decide) rfl ?_
        refine Go.goto 5 dJ7_fill_53178_17 rfl ?_
        exact Go.sub [1, 2, 0, 3] [(0, .ref a0), (1, .int a1), (2, .int (l5_2 + (1 : Int32))), (3, .int v4)] rfl (ih (l5_2 + (1 : Int32)) S13 hf)
  exact Go.sub [2, 3, 1, 0] [(0, .ref a0), (1, .int a1), (2, .int (0 : Int32)), (3, .int v4)] rfl (L5 n (0 : Int32) S hf)
theorem dJ6_bitCount_0f7a4_0 : decode cJ6_bitCount_0f7a4 0 = .ok (.iload_n 0, 1) := by decide +kernel
theorem dJ6_bitCount_0f7a4_1 : decode cJ6_bitCount_0f7a4 1 = .ok (.iload_n 0, 1) := by decide +kernel
theorem dJ6_bitCount_0f7a4_2 : decode cJ6_bitCount_0f7a4 2 = .ok (.iconst 1, 1) := by decide +kernel
theorem dJ6_bitCount_0f7a4_3 : decode cJ6_bitCount_0f7a4 3 = .ok (.iushr, 1) := by decide +kernel
theorem dJ6_bitCount_0f7a4_4 : decode cJ6_bitCount_0f7a4 4 = .ok (.ldc_w 265, 3) := by decide +kernel
theorem dJ6_bitCount_0f7a4_7 : decode cJ6_bitCount_0f7a4 7 = .ok (.iand, 1) := by decide +kernel
theorem dJ6_bitCount_0f7a4_8 : decode cJ6_bitCount_0f7a4 8 = .ok (.isub, 1) := by decide +kernel
theorem dJ6_bitCount_0f7a4_9 : decode cJ6_bitCount_0f7a4 9 = .ok (.istore_n 0, 1) := by decide +kernel
theorem dJ6_bitCount_0f7a4_10 : decode cJ6_bitCount_0f7a4 10 = .ok (.iload_n 0, 1) := by decide +kernel
theorem dJ6_bitCount_0f7a4_11 : decode cJ6_bitCount_0f7a4 11 = .ok (.ldc_w 266, 3) := by decide +kernel
theorem dJ6_bitCount_0f7a4_14 : decode cJ6_bitCount_0f7a4 14 = .ok (.iand, 1) := by decide +kernel
theorem dJ6_bitCount_0f7a4_15 : decode cJ6_bitCount_0f7a4 15 = .ok (.iload_n 0, 1) := by decide +kernel
theorem dJ6_bitCount_0f7a4_16 : decode cJ6_bitCount_0f7a4 16 = .ok (.iconst 2, 1) := by decide +kernel
theorem dJ6_bitCount_0f7a4_17 : decode cJ6_bitCount_0f7a4 17 = .ok (.iushr, 1) := by decide +kernel
theorem dJ6_bitCount_0f7a4_18 : decode cJ6_bitCount_0f7a4 18 = .ok (.ldc_w 266, 3) := by decide +kernel
theorem dJ6_bitCount_0f7a4_21 : decode cJ6_bitCount_0f7a4 21 = .ok (.iand, 1) := by decide +kernel
theorem dJ6_bitCount_0f7a4_22 : decode cJ6_bitCount_0f7a4 22 = .ok (.iadd, 1) := by decide +kernel
theorem dJ6_bitCount_0f7a4_23 : decode cJ6_bitCount_0f7a4 23 = .ok (.istore_n 0, 1) := by decide +kernel
theorem dJ6_bitCount_0f7a4_24 : decode cJ6_bitCount_0f7a4 24 = .ok (.iload_n 0, 1) := by decide +kernel
theorem dJ6_bitCount_0f7a4_25 : decode cJ6_bitCount_0f7a4 25 = .ok (.iload_n 0, 1) := by decide +kernel
theorem dJ6_bitCount_0f7a4_26 : decode cJ6_bitCount_0f7a4 26 = .ok (.iconst 4, 1) := by decide +kernel
theorem dJ6_bitCount_0f7a4_27 : decode cJ6_bitCount_0f7a4 27 = .ok (.iushr, 1) := by decide +kernel
theorem dJ6_bitCount_0f7a4_28 : decode cJ6_bitCount_0f7a4 28 = .ok (.iadd, 1) := by decide +kernel
theorem dJ6_bitCount_0f7a4_29 : decode cJ6_bitCount_0f7a4 29 = .ok (.ldc_w 267, 3) := by decide +kernel
theorem dJ6_bitCount_0f7a4_32 : decode cJ6_bitCount_0f7a4 32 = .ok (.iand, 1) := by decide +kernel
theorem dJ6_bitCount_0f7a4_33 : decode cJ6_bitCount_0f7a4 33 = .ok (.istore_n 0, 1) := by decide +kernel
theorem dJ6_bitCount_0f7a4_34 : decode cJ6_bitCount_0f7a4 34 = .ok (.iload_n 0, 1) := by decide +kernel
theorem dJ6_bitCount_0f7a4_35 : decode cJ6_bitCount_0f7a4 35 = .ok (.iload_n 0, 1) := by decide +kernel
theorem dJ6_bitCount_0f7a4_36 : decode cJ6_bitCount_0f7a4 36 = .ok (.bipush 8, 2) := by decide +kernel
theorem dJ6_bitCount_0f7a4_38 : decode cJ6_bitCount_0f7a4 38 = .ok (.iushr, 1) := by decide +kernel
theorem dJ6_bitCount_0f7a4_39 : decode cJ6_bitCount_0f7a4 39 = .ok (.iadd, 1) := by decide +kernel
theorem dJ6_bitCount_0f7a4_40 : decode cJ6_bitCount_0f7a4 40 = .ok (.istore_n 0, 1) := by decide +kernel
theorem dJ6_bitCount_0f7a4_41 : decode cJ6_bitCount_0f7a4 41 = .ok (.iload_n 0, 1) := by decide +kernel
theorem dJ6_bitCount_0f7a4_42 : decode cJ6_bitCount_0f7a4 42 = .ok (.iload_n 0, 1) := by decide +kernel
theorem dJ6_bitCount_0f7a4_43 : decode cJ6_bitCount_0f7a4 43 = .ok (.bipush 16, 2) := by decide +kernel
theorem dJ6_bitCount_0f7a4_45 : decode cJ6_bitCount_0f7a4 45 = .ok (.iushr, 1) := by decide +kernel
theorem dJ6_bitCount_0f7a4_46 : decode cJ6_bitCount_0f7a4 46 = .ok (.iadd, 1) := by decide +kernel
theorem dJ6_bitCount_0f7a4_47 : decode cJ6_bitCount_0f7a4 47 = .ok (.istore_n 0, 1) := by decide +kernel
theorem dJ6_bitCount_0f7a4_48 : decode cJ6_bitCount_0f7a4 48 = .ok (.iload_n 0, 1) := by decide +kernel
theorem dJ6_bitCount_0f7a4_49 : decode cJ6_bitCount_0f7a4 49 = .ok (.bipush 63, 2) := by decide +kernel
theorem dJ6_bitCount_0f7a4_51 : decode cJ6_bitCount_0f7a4 51 = .ok (.iand, 1) := by decide +kernel
theorem dJ6_bitCount_0f7a4_52 : decode cJ6_bitCount_0f7a4 52 = .ok (.ireturn, 1) := by decide +kernel
def F_J6_bitCount_0f7a4 (n : Nat) (S : aSt) (a0 : Int32) : Option Int32 :=
nm (a0 - ((a0.toUInt32 >>> ((1 : Int32).toUInt32 &&& Int32.toUInt32 31)).toInt32 &&& (1431655765 : Int32))) fun v9 =>
nm ((v9 &&& (858993459 : Int32)) + ((v9.toUInt32 >>> ((2 : Int32).toUInt32 &&& Int32.toUInt32 31)).toInt32 &&& (858993459 : Int32))) fun v23 =>
nm ((v23 + (v23.toUInt32 >>> ((4 : Int32).toUInt32 &&& Int32.toUInt32 31)).toInt32) &&& (252645135 : Int32)) fun v33 =>
nm (v33 + (v33.toUInt32 >>> ((8 : Int32).toUInt32 &&& Int32.toUInt32 31)).toInt32) fun v40 =>
nm (v40 + (v40.toUInt32 >>> ((16 : Int32).toUInt32 &&& Int32.toUInt32 31)).toInt32) fun v47 =>
some (v47 &&& (63 : Int32))
set_option maxHeartbeats 4000000 in
set_option maxRecDepth 100000 in
theorem C_J6_bitCount_0f7a4 (G : aG) (l : Launch) (n : Nat) (S : aSt) (a0 : Int32) (r : Int32)  (hf : F_J6_bitCount_0f7a4 n S a0 = some r) : Ctr G l yJ6_bitCount_0f7a4 mJ6_bitCount_0f7a4 (rmM 1) 97 97 S [.int a0] (some (.int r)) S := by
  refine Ctr.of (by decide) rfl rfl (Nat.le_of_ble_eq_true rfl) [(0, .int a0)] rfl ?_
  unfold F_J6_bitCount_0f7a4 at hf
  refine Go.iload_n 0 1 rfl dJ6_bitCount_0f7a4_0 rfl ?_
  refine Go.iload_n 0 2 rfl dJ6_bitCount_0f7a4_1 rfl ?_
  refine Go.iconst (1 : Int32) 3 rfl dJ6_bitCount_0f7a4_2 ci_1 ?_
  refine Go.iushr 4 rfl dJ6_bitCount_0f7a4_3 ?_
  refine Go.ldcw (1431655765 : Int32) 7 rfl dJ6_bitCount_0f7a4_4 (am_mem 569 (by decide +kernel) rfl) ?_
  refine Go.iand 8 rfl dJ6_bitCount_0f7a4_7 ?_
  refine Go.isub 9 rfl dJ6_bitCount_0f7a4_8 ?_
  obtain ⟨v9, ev9, hf⟩ := f_nm hf
  refine Go.topi v9 ev9 ?_
  refine Go.istore_n 10 [(0, .int v9)] rfl dJ6_bitCount_0f7a4_9 (by decide) rfl ?_
  refine Go.iload_n 0 11 rfl dJ6_bitCount_0f7a4_10 rfl ?_
  refine Go.ldcw (858993459 : Int32) 14 rfl dJ6_bitCount_0f7a4_11 (am_mem 570 (by decide +kernel) rfl) ?_
  refine Go.iand 15 rfl dJ6_bitCount_0f7a4_14 ?_
  refine Go.iload_n 0 16 rfl dJ6_bitCount_0f7a4_15 rfl ?_
  refine Go.iconst (2 : Int32) 17 rfl dJ6_bitCount_0f7a4_16 ci_2 ?_
  refine Go.iushr 18 rfl dJ6_bitCount_0f7a4_17 ?_
  refine Go.ldcw (858993459 : Int32) 21 rfl dJ6_bitCount_0f7a4_18 (am_mem 570 (by decide +kernel) rfl) ?_
  refine Go.iand 22 rfl dJ6_bitCount_0f7a4_21 ?_
  refine Go.iadd 23 rfl dJ6_bitCount_0f7a4_22 ?_
  obtain ⟨v23, ev23, hf⟩ := f_nm hf
  refine Go.topi v23 ev23 ?_
  refine Go.istore_n 24 [(0, .int v23)] rfl dJ6_bitCount_0f7a4_23 (by decide) rfl ?_
  refine Go.iload_n 0 25 rfl dJ6_bitCount_0f7a4_24 rfl ?_
  refine Go.iload_n 0 26 rfl dJ6_bitCount_0f7a4_25 rfl ?_
  refine Go.iconst (4 : Int32) 27 rfl dJ6_bitCount_0f7a4_26 ci_4 ?_
  refine Go.iushr 28 rfl dJ6_bitCount_0f7a4_27 ?_
  refine Go.iadd 29 rfl dJ6_bitCount_0f7a4_28 ?_
  refine Go.ldcw (252645135 : Int32) 32 rfl dJ6_bitCount_0f7a4_29 (am_mem 571 (by decide +kernel) rfl) ?_
  refine Go.iand 33 rfl dJ6_bitCount_0f7a4_32 ?_
  obtain ⟨v33, ev33, hf⟩ := f_nm hf
  refine Go.topi v33 ev33 ?_
  refine Go.istore_n 34 [(0, .int v33)] rfl dJ6_bitCount_0f7a4_33 (by decide) rfl ?_
  refine Go.iload_n 0 35 rfl dJ6_bitCount_0f7a4_34 rfl ?_
  refine Go.iload_n 0 36 rfl dJ6_bitCount_0f7a4_35 rfl ?_
  refine Go.bipush (8 : Int32) 38 rfl dJ6_bitCount_0f7a4_36 cb_8 ?_
  refine Go.iushr 39 rfl dJ6_bitCount_0f7a4_38 ?_
  refine Go.iadd 40 rfl dJ6_bitCount_0f7a4_39 ?_
  obtain ⟨v40, ev40, hf⟩ := f_nm hf
  refine Go.topi v40 ev40 ?_
  refine Go.istore_n 41 [(0, .int v40)] rfl dJ6_bitCount_0f7a4_40 (by decide) rfl ?_
  refine Go.iload_n 0 42 rfl dJ6_bitCount_0f7a4_41 rfl ?_
  refine Go.iload_n 0 43 rfl dJ6_bitCount_0f7a4_42 rfl ?_
  refine Go.bipush (16 : Int32) 45 rfl dJ6_bitCount_0f7a4_43 cb_16 ?_
  refine Go.iushr 46 rfl dJ6_bitCount_0f7a4_45 ?_
  refine Go.iadd 47 rfl dJ6_bitCount_0f7a4_46 ?_
  obtain ⟨v47, ev47, hf⟩ := f_nm hf
  refine Go.topi v47 ev47 ?_
  refine Go.istore_n 48 [(0, .int v47)] rfl dJ6_bitCount_0f7a4_47 (by decide) rfl ?_
  refine Go.iload_n 0 49 rfl dJ6_bitCount_0f7a4_48 rfl ?_
  refine Go.bipush (63 : Int32) 51 rfl dJ6_bitCount_0f7a4_49 cb_63 ?_
  refine Go.iand 52 rfl dJ6_bitCount_0f7a4_51 ?_
  exact Go.ir rfl dJ6_bitCount_0f7a4_52 hf
end
section
/-! written by program: X0_ofLetter X0_isA X0_meaning -/
theorem dX0_ofLetter_0 : decode cX0_ofLetter 0 = .ok (.iconst 0, 1) := by decide +kernel
theorem dX0_ofLetter_1 : decode cX0_ofLetter 1 = .ok (.istore_n 1, 1) := by decide +kernel
theorem dX0_ofLetter_2 : decode cX0_ofLetter 2 = .ok (.iload_n 1, 1) := by decide +kernel
theorem dX0_ofLetter_3 : decode cX0_ofLetter 3 = .ok (.bipush 6, 2) := by decide +kernel
theorem dX0_ofLetter_5 : decode cX0_ofLetter 5 = .ok (.if_icmp .ge 20, 3) := by decide +kernel
theorem dX0_ofLetter_8 : decode cX0_ofLetter 8 = .ok (.getstatic 9, 3) := by decide +kernel
theorem dX0_ofLetter_11 : decode cX0_ofLetter 11 = .ok (.iload_n 1, 1) := by decide +kernel
theorem dX0_ofLetter_12 : decode cX0_ofLetter 12 = .ok (.iaload, 1) := by decide +kernel
theorem dX0_ofLetter_13 : decode cX0_ofLetter 13 = .ok (.iload_n 0, 1) := by decide +kernel
theorem dX0_ofLetter_14 : decode cX0_ofLetter 14 = .ok (.if_icmp .ne 5, 3) := by decide +kernel
theorem dX0_ofLetter_17 : decode cX0_ofLetter 17 = .ok (.iload_n 1, 1) := by decide +kernel
theorem dX0_ofLetter_18 : decode cX0_ofLetter 18 = .ok (.ireturn, 1) := by decide +kernel
theorem dX0_ofLetter_19 : decode cX0_ofLetter 19 = .ok (.iinc 1 1, 3) := by decide +kernel
theorem dX0_ofLetter_22 : decode cX0_ofLetter 22 = .ok (.goto (-20), 3) := by decide +kernel
theorem dX0_ofLetter_25 : decode cX0_ofLetter 25 = .ok (.bipush (-9), 2) := by decide +kernel
theorem dX0_ofLetter_27 : decode cX0_ofLetter 27 = .ok (.ireturn, 1) := by decide +kernel
def F_X0_ofLetter_L2 (a0 : Int32) (K25 : Option Int32) : Nat → Int32 → Option Int32
  | 0, _ => none
  | fu + 1, l2_1 =>
    if (6 : Int32) ≤ l2_1 then (K25) else
    grd (inb l2_1 6) <|
    if (am_let l2_1.toNatClampNeg) = a0 then (some l2_1) else
    F_X0_ofLetter_L2 a0 K25 fu (l2_1 + (1 : Int32))
def F_X0_ofLetter (n : Nat) (S : aSt) (a0 : Int32) : Option Int32 :=
jn ((some (-9 : Int32) : Option Int32)) fun K25 =>
F_X0_ofLetter_L2 a0 K25 n (0 : Int32)
set_option maxHeartbeats 4000000 in
set_option maxRecDepth 100000 in
theorem C_X0_ofLetter (G : aG) (l : Launch) (n : Nat) (S : aSt) (a0 : Int32) (r : Int32)  (hf : F_X0_ofLetter n S a0 = some r) : Ctr G l yX0_ofLetter mX0_ofLetter (rmM 1) 97 97 S [.int a0] (some (.int r)) S := by
  refine Ctr.of (by decide) rfl rfl (Nat.le_of_ble_eq_true rfl) [(0, .int a0)] rfl ?_
  unfold F_X0_ofLetter at hf
  refine Go.iconst (0 : Int32) 1 rfl dX0_ofLetter_0 ci_0 ?_
  refine Go.istore_n 2 [(1, .int (0 : Int32)), (0, .int a0)] rfl dX0_ofLetter_1 (by decide) rfl ?_
  obtain ⟨K25, eK25, hf⟩ := f_jn hf
  have J25 : K25 = some r → GoM G l 1 (TmR G (some (.int r)) 97 S 0 0) mX0_ofLetter 25 [] [] S := by
    intro hf
    rw [eK25] at hf
    refine Go.bipush (-9 : Int32) 27 rfl dX0_ofLetter_25 cb_m9 ?_
    exact Go.ir rfl dX0_ofLetter_27 hf
  clear eK25
  have L2 : ∀ (fu : Nat) (l2_1 : Int32), F_X0_ofLetter_L2 a0 K25 fu l2_1 = some r → GoM G l 1 (TmR G (some (.int r)) 97 S 0 0) mX0_ofLetter 2 [(0, .int a0), (1, .int l2_1)] [] S := by
    intro fu
    induction fu with
    | zero => intro l2_1 hf; rw [F_X0_ofLetter_L2] at hf; cases hf
    | succ fu ih =>
      intro l2_1 hf
      rw [F_X0_ofLetter_L2] at hf
      refine Go.iload_n 1 3 rfl dX0_ofLetter_2 rfl ?_
      refine Go.bipush (6 : Int32) 5 rfl dX0_ofLetter_3 cb_6 ?_
      refine Go.icmp_ge 25 8 rfl dX0_ofLetter_5 rfl (fun hc => ?_) (fun hc => ?_)
      · replace hf := f_if hf hc
        exact Go.sub [] [] rfl (J25 hf)
      · replace hf := f_el hf hc
        refine Go.gets 11 rfl dX0_ofLetter_8 (am_mem 380 (by decide +kernel) rfl) ?_
        refine Go.iload_n 1 12 rfl dX0_ofLetter_11 rfl ?_
        obtain ⟨g12, hf⟩ := f_grd hf
        refine Go.ildT 13 rfl dX0_ofLetter_12 g12 ?_
        refine Go.iload_n 0 14 rfl dX0_ofLetter_13 rfl ?_
        refine Go.icmp_ne 19 17 rfl dX0_ofLetter_14 rfl (fun hc => ?_) (fun hc => ?_)
        · replace hf := f_el hf hc
          refine Go.inc 1 22 (1 : Int32) [(1, .int (l2_1 + (1 : Int32))), (0, .int a0)] rfl dX0_ofLetter_19 rfl ci_1 (by decide) rfl ?_
          refine Go.goto 2 dX0_ofLetter_22 rfl ?_
          exact Go.sub [1, 0] [(0, .int a0), (1, .int (l2_1 + (1 : Int32)))] rfl (ih (l2_1 + (1 : Int32)) hf)
        · replace hf := f_if hf hc
          refine Go.iload_n 1 18 rfl dX0_ofLetter_17 rfl ?_
          exact Go.ir rfl dX0_ofLetter_18 hf
  exact Go.sub [1, 0] [(0, .int a0), (1, .int (0 : Int32))] rfl (L2 n (0 : Int32) hf)
theorem dX0_isA_0 : decode cX0_isA 0 = .ok (.iload_n 1, 1) := by decide +kernel
theorem dX0_isA_1 : decode cX0_isA 1 = .ok (.ifCond .eq 28, 3) := by decide +kernel
theorem dX0_isA_4 : decode cX0_isA 4 = .ok (.iload_n 0, 1) := by decide +kernel
theorem dX0_isA_5 : decode cX0_isA 5 = .ok (.iload_n 1, 1) := by decide +kernel
theorem dX0_isA_6 : decode cX0_isA 6 = .ok (.if_icmp .eq 23, 3) := by decide +kernel
theorem dX0_isA_9 : decode cX0_isA 9 = .ok (.iload_n 1, 1) := by decide +kernel
theorem dX0_isA_10 : decode cX0_isA 10 = .ok (.iconst 1, 1) := by decide +kernel
theorem dX0_isA_11 : decode cX0_isA 11 = .ok (.if_icmp .ne 8, 3) := by decide +kernel
theorem dX0_isA_14 : decode cX0_isA 14 = .ok (.iload_n 0, 1) := by decide +kernel
theorem dX0_isA_15 : decode cX0_isA 15 = .ok (.iconst 3, 1) := by decide +kernel
theorem dX0_isA_16 : decode cX0_isA 16 = .ok (.if_icmp .eq 13, 3) := by decide +kernel
theorem dX0_isA_19 : decode cX0_isA 19 = .ok (.iload_n 1, 1) := by decide +kernel
theorem dX0_isA_20 : decode cX0_isA 20 = .ok (.iconst 2, 1) := by decide +kernel
theorem dX0_isA_21 : decode cX0_isA 21 = .ok (.if_icmp .ne 12, 3) := by decide +kernel
theorem dX0_isA_24 : decode cX0_isA 24 = .ok (.iload_n 0, 1) := by decide +kernel
theorem dX0_isA_25 : decode cX0_isA 25 = .ok (.iconst 5, 1) := by decide +kernel
theorem dX0_isA_26 : decode cX0_isA 26 = .ok (.if_icmp .ne 7, 3) := by decide +kernel
theorem dX0_isA_29 : decode cX0_isA 29 = .ok (.iconst 1, 1) := by decide +kernel
theorem dX0_isA_30 : decode cX0_isA 30 = .ok (.goto 4, 3) := by decide +kernel
theorem dX0_isA_33 : decode cX0_isA 33 = .ok (.iconst 0, 1) := by decide +kernel
theorem dX0_isA_34 : decode cX0_isA 34 = .ok (.ireturn, 1) := by decide +kernel
def F_X0_isA (n : Nat) (S : aSt) (a0 : Int32) (a1 : Int32) : Option Int32 :=
if a1 = 0 then (some (1 : Int32)) else
if a0 = a1 then (some (1 : Int32)) else
jn ((if a1 = (2 : Int32) then (if a0 = (5 : Int32) then (some (1 : Int32)) else
some (0 : Int32)) else
some (0 : Int32) : Option Int32)) fun K19 =>
if a1 = (1 : Int32) then (if a0 = (3 : Int32) then (some (1 : Int32)) else
K19) else
K19
set_option maxHeartbeats 4000000 in
set_option maxRecDepth 100000 in
theorem C_X0_isA (G : aG) (l : Launch) (n : Nat) (S : aSt) (a0 : Int32) (a1 : Int32) (r : Int32)  (hf : F_X0_isA n S a0 a1 = some r) : Ctr G l yX0_isA mX0_isA (rmM 1) 97 97 S [.int a0, .int a1] (some (.int r)) S := by
  refine Ctr.of (by decide) rfl rfl (Nat.le_of_ble_eq_true rfl) [(0, .int a0), (1, .int a1)] rfl ?_
  unfold F_X0_isA at hf
  refine Go.iload_n 1 1 rfl dX0_isA_0 rfl ?_
  refine Go.if_eq 29 4 rfl dX0_isA_1 rfl (fun hc => ?_) (fun hc => ?_)
  · replace hf := f_if hf hc
    refine Go.iconst (1 : Int32) 30 rfl dX0_isA_29 ci_1 ?_
    refine Go.goto 34 dX0_isA_30 rfl ?_
    exact Go.zr rfl (Or.inr rfl) dX0_isA_34 hf
  · replace hf := f_el hf hc
    refine Go.iload_n 0 5 rfl dX0_isA_4 rfl ?_
    refine Go.iload_n 1 6 rfl dX0_isA_5 rfl ?_
    refine Go.icmp_eq 29 9 rfl dX0_isA_6 rfl (fun hc => ?_) (fun hc => ?_)
    · replace hf := f_if hf hc
      refine Go.iconst (1 : Int32) 30 rfl dX0_isA_29 ci_1 ?_
      refine Go.goto 34 dX0_isA_30 rfl ?_
      exact Go.zr rfl (Or.inr rfl) dX0_isA_34 hf
    · replace hf := f_el hf hc
      refine Go.iload_n 1 10 rfl dX0_isA_9 rfl ?_
      refine Go.iconst (1 : Int32) 11 rfl dX0_isA_10 ci_1 ?_
      obtain ⟨K19, eK19, hf⟩ := f_jn hf
      have J19 : K19 = some r → GoM G l 1 (TmR G (some (.int r)) 97 S 0 0) mX0_isA 19 [(0, .int a0), (1, .int a1)] [] S := by
        intro hf
        rw [eK19] at hf
        refine Go.iload_n 1 20 rfl dX0_isA_19 rfl ?_
        refine Go.iconst (2 : Int32) 21 rfl dX0_isA_20 ci_2 ?_
        refine Go.icmp_ne 33 24 rfl dX0_isA_21 rfl (fun hc => ?_) (fun hc => ?_)
        · replace hf := f_el hf hc
          refine Go.iconst (0 : Int32) 34 rfl dX0_isA_33 ci_0 ?_
          exact Go.zr rfl (Or.inl rfl) dX0_isA_34 hf
        · replace hf := f_if hf hc
          refine Go.iload_n 0 25 rfl dX0_isA_24 rfl ?_
          refine Go.iconst (5 : Int32) 26 rfl dX0_isA_25 ci_5 ?_
          refine Go.icmp_ne 33 29 rfl dX0_isA_26 rfl (fun hc => ?_) (fun hc => ?_)
          · replace hf := f_el hf hc
            refine Go.iconst (0 : Int32) 34 rfl dX0_isA_33 ci_0 ?_
            exact Go.zr rfl (Or.inl rfl) dX0_isA_34 hf
          · replace hf := f_if hf hc
            refine Go.iconst (1 : Int32) 30 rfl dX0_isA_29 ci_1 ?_
            refine Go.goto 34 dX0_isA_30 rfl ?_
            exact Go.zr rfl (Or.inr rfl) dX0_isA_34 hf
      clear eK19
      refine Go.icmp_ne 19 14 rfl dX0_isA_11 rfl (fun hc => ?_) (fun hc => ?_)
      · replace hf := f_el hf hc
        exact J19 hf
      · replace hf := f_if hf hc
        refine Go.iload_n 0 15 rfl dX0_isA_14 rfl ?_
        refine Go.iconst (3 : Int32) 16 rfl dX0_isA_15 ci_3 ?_
        refine Go.icmp_eq 29 19 rfl dX0_isA_16 rfl (fun hc => ?_) (fun hc => ?_)
        · replace hf := f_if hf hc
          refine Go.iconst (1 : Int32) 30 rfl dX0_isA_29 ci_1 ?_
          refine Go.goto 34 dX0_isA_30 rfl ?_
          exact Go.zr rfl (Or.inr rfl) dX0_isA_34 hf
        · replace hf := f_el hf hc
          exact J19 hf
theorem dX0_meaning_0 : decode cX0_meaning 0 = .ok (.iload_n 0, 1) := by decide +kernel
theorem dX0_meaning_1 : decode cX0_meaning 1 = .ok (.tableswitch 62 1 5 #[35, 62, 46, 55, 48], 35) := by decide +kernel
theorem dX0_meaning_36 : decode cX0_meaning 36 = .ok (.iload_n 1, 1) := by decide +kernel
theorem dX0_meaning_37 : decode cX0_meaning 37 = .ok (.iconst 5, 1) := by decide +kernel
theorem dX0_meaning_38 : decode cX0_meaning 38 = .ok (.if_icmp .lt 7, 3) := by decide +kernel
theorem dX0_meaning_41 : decode cX0_meaning 41 = .ok (.iconst 1, 1) := by decide +kernel
theorem dX0_meaning_42 : decode cX0_meaning 42 = .ok (.goto 4, 3) := by decide +kernel
theorem dX0_meaning_45 : decode cX0_meaning 45 = .ok (.iconst 0, 1) := by decide +kernel
theorem dX0_meaning_46 : decode cX0_meaning 46 = .ok (.ireturn, 1) := by decide +kernel
theorem dX0_meaning_47 : decode cX0_meaning 47 = .ok (.iconst 0, 1) := by decide +kernel
theorem dX0_meaning_48 : decode cX0_meaning 48 = .ok (.ireturn, 1) := by decide +kernel
theorem dX0_meaning_49 : decode cX0_meaning 49 = .ok (.iload_n 1, 1) := by decide +kernel
theorem dX0_meaning_50 : decode cX0_meaning 50 = .ok (.iconst 1, 1) := by decide +kernel
theorem dX0_meaning_51 : decode cX0_meaning 51 = .ok (.iadd, 1) := by decide +kernel
theorem dX0_meaning_52 : decode cX0_meaning 52 = .ok (.bipush 10, 2) := by decide +kernel
theorem dX0_meaning_54 : decode cX0_meaning 54 = .ok (.irem, 1) := by decide +kernel
theorem dX0_meaning_55 : decode cX0_meaning 55 = .ok (.ireturn, 1) := by decide +kernel
theorem dX0_meaning_56 : decode cX0_meaning 56 = .ok (.iload_n 1, 1) := by decide +kernel
theorem dX0_meaning_57 : decode cX0_meaning 57 = .ok (.iload_n 2, 1) := by decide +kernel
theorem dX0_meaning_58 : decode cX0_meaning 58 = .ok (.iadd, 1) := by decide +kernel
theorem dX0_meaning_59 : decode cX0_meaning 59 = .ok (.bipush 10, 2) := by decide +kernel
theorem dX0_meaning_61 : decode cX0_meaning 61 = .ok (.irem, 1) := by decide +kernel
theorem dX0_meaning_62 : decode cX0_meaning 62 = .ok (.ireturn, 1) := by decide +kernel
theorem dX0_meaning_63 : decode cX0_meaning 63 = .ok (.iload_n 1, 1) := by decide +kernel
theorem dX0_meaning_64 : decode cX0_meaning 64 = .ok (.ireturn, 1) := by decide +kernel
def F_X0_meaning (n : Nat) (S : aSt) (a0 : Int32) (a1 : Int32) (a2 : Int32) : Option Int32 :=
if a0 = (1 : Int32) then (if a1 < (5 : Int32) then (some (0 : Int32)) else
some (1 : Int32)) else
if a0 = (2 : Int32) then (some a1) else
if a0 = (3 : Int32) then (some (0 : Int32)) else
if a0 = (4 : Int32) then (some ((a1 + a2) - (a1 + a2) / (10 : Int32) * (10 : Int32))) else
if a0 = (5 : Int32) then (some ((a1 + (1 : Int32)) - (a1 + (1 : Int32)) / (10 : Int32) * (10 : Int32))) else
some a1
set_option maxHeartbeats 4000000 in
set_option maxRecDepth 100000 in
theorem C_X0_meaning (G : aG) (l : Launch) (n : Nat) (S : aSt) (a0 : Int32) (a1 : Int32) (a2 : Int32) (r : Int32)  (hf : F_X0_meaning n S a0 a1 a2 = some r) : Ctr G l yX0_meaning mX0_meaning (rmM 1) 97 97 S [.int a0, .int a1, .int a2] (some (.int r)) S := by
  refine Ctr.of (by decide) rfl rfl (Nat.le_of_ble_eq_true rfl) [(0, .int a0), (1, .int a1), (2, .int a2)] rfl ?_
  unfold F_X0_meaning at hf
  refine Go.iload_n 0 1 rfl dX0_meaning_0 rfl ?_
  by_cases hs1_0 : a0 = (1 : Int32)
  · replace hf := f_if hf hs1_0
    refine Go.tin (1 : Int32) 36 hs1_0 dX0_meaning_1 (by decide) (by decide) rfl rfl ?_
    refine Go.iload_n 1 37 rfl dX0_meaning_36 rfl ?_
    refine Go.iconst (5 : Int32) 38 rfl dX0_meaning_37 ci_5 ?_
    refine Go.icmp_lt 45 41 rfl dX0_meaning_38 rfl (fun hc => ?_) (fun hc => ?_)
    · replace hf := f_if hf hc
      refine Go.iconst (0 : Int32) 46 rfl dX0_meaning_45 ci_0 ?_
      exact Go.ir rfl dX0_meaning_46 hf
    · replace hf := f_el hf hc
      refine Go.iconst (1 : Int32) 42 rfl dX0_meaning_41 ci_1 ?_
      refine Go.goto 46 dX0_meaning_42 rfl ?_
      exact Go.ir rfl dX0_meaning_46 hf
  replace hf := f_el hf hs1_0
  by_cases hs1_1 : a0 = (2 : Int32)
  · replace hf := f_if hf hs1_1
    refine Go.tin (2 : Int32) 63 hs1_1 dX0_meaning_1 (by decide) (by decide) rfl rfl ?_
    refine Go.iload_n 1 64 rfl dX0_meaning_63 rfl ?_
    exact Go.ir rfl dX0_meaning_64 hf
  replace hf := f_el hf hs1_1
  by_cases hs1_2 : a0 = (3 : Int32)
  · replace hf := f_if hf hs1_2
    refine Go.tin (3 : Int32) 47 hs1_2 dX0_meaning_1 (by decide) (by decide) rfl rfl ?_
    refine Go.iconst (0 : Int32) 48 rfl dX0_meaning_47 ci_0 ?_
    exact Go.ir rfl dX0_meaning_48 hf
  replace hf := f_el hf hs1_2
  by_cases hs1_3 : a0 = (4 : Int32)
  · replace hf := f_if hf hs1_3
    refine Go.tin (4 : Int32) 56 hs1_3 dX0_meaning_1 (by decide) (by decide) rfl rfl ?_
    refine Go.iload_n 1 57 rfl dX0_meaning_56 rfl ?_
    refine Go.iload_n 2 58 rfl dX0_meaning_57 rfl ?_
    refine Go.iadd 59 rfl dX0_meaning_58 ?_
    refine Go.bipush (10 : Int32) 61 rfl dX0_meaning_59 cb_10 ?_
    refine Go.irem 62 rfl dX0_meaning_61 (by decide) ?_
    exact Go.ir rfl dX0_meaning_62 hf
  replace hf := f_el hf hs1_3
  by_cases hs1_4 : a0 = (5 : Int32)
  · replace hf := f_if hf hs1_4
    refine Go.tin (5 : Int32) 49 hs1_4 dX0_meaning_1 (by decide) (by decide) rfl rfl ?_
    refine Go.iload_n 1 50 rfl dX0_meaning_49 rfl ?_
    refine Go.iconst (1 : Int32) 51 rfl dX0_meaning_50 ci_1 ?_
    refine Go.iadd 52 rfl dX0_meaning_51 ?_
    refine Go.bipush (10 : Int32) 54 rfl dX0_meaning_52 cb_10 ?_
    refine Go.irem 55 rfl dX0_meaning_54 (by decide) ?_
    exact Go.ir rfl dX0_meaning_55 hf
  replace hf := f_el hf hs1_4
  have nhs1_0 := tsw_ne (z := 1) hs1_0 (by decide)
  have nhs1_1 := tsw_ne (z := 2) hs1_1 (by decide)
  have nhs1_2 := tsw_ne (z := 3) hs1_2 (by decide)
  have nhs1_3 := tsw_ne (z := 4) hs1_3 (by decide)
  have nhs1_4 := tsw_ne (z := 5) hs1_4 (by decide)
  refine Go.tout 63 dX0_meaning_1 (by omega) rfl ?_
  refine Go.iload_n 1 64 rfl dX0_meaning_63 rfl ?_
  exact Go.ir rfl dX0_meaning_64 hf
end
