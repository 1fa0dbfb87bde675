/-! Facts that the rows use: methods, words, constants (written by program). -/
theorem inX1g : ∀ w ∈ wsX10, w ∈ lw_g := by decide +kernel
theorem inX2g : ∀ w ∈ wsX20, w ∈ lw_g := by decide +kernel
theorem inX3g : ∀ w ∈ wsX30, w ∈ lw_g := by decide +kernel
theorem inX4g : ∀ w ∈ wsX40, w ∈ lw_g := by decide +kernel
theorem inX5g : ∀ w ∈ wsX50, w ∈ lw_g := by decide +kernel
theorem inX6g : ∀ w ∈ wsX60, w ∈ lw_g := by decide +kernel
theorem inX7g : ∀ w ∈ wsX70, w ∈ lw_g := by decide +kernel
abbrev mX0_ofLetter : aM := (cX0_ofLetter, 2, some .int, RX0, "ofLetter")
abbrev mX0_isA : aM := (cX0_isA, 2, some .boolean, RX0, "isA")
abbrev mX0_meaning : aM := (cX0_meaning, 3, some .int, RX0, "meaning")
abbrev mX1_init : aM := (cX1_init, 1, none, RX1, "<init>")
abbrev mX1_readFrom : aM := (cX1_readFrom, 6, some .int, RX1, "readFrom")
abbrev mX1_pastBlanks : aM := (cX1_pastBlanks, 3, some .int, RX1, "pastBlanks")
abbrev mX1_readCard : aM := (cX1_readCard, 4, some .int, RX1, "readCard")
abbrev mX1_readQuestion : aM := (cX1_readQuestion, 3, some .int, RX1, "readQuestion")
abbrev mX1_figure : aM := (cX1_figure, 5, some .int, RX1, "figure")
abbrev mX1_isCard : aM := (cX1_isCard, 2, some .boolean, RX1, "isCard")
abbrev mX1_isQuestion : aM := (cX1_isQuestion, 2, some .boolean, RX1, "isQuestion")
abbrev mX1_allCards : aM := (cX1_allCards, 1, some .int, RX1, "allCards")
abbrev mX1_isFreeCard : aM := (cX1_isFreeCard, 2, some .boolean, RX1, "isFreeCard")
abbrev mX1_isFreeQuestion : aM := (cX1_isFreeQuestion, 2, some .boolean, RX1, "isFreeQuestion")
abbrev mX1_freeCards : aM := (cX1_freeCards, 3, some .int, RX1, "freeCards")
abbrev mX1_answered : aM := (cX1_answered, 3, some .int, RX1, "answered")
abbrev mX1_meaningOf : aM := (cX1_meaningOf, 2, some .int, RX1, "meaningOf")
abbrev mX1_isFitting : aM := (cX1_isFitting, 4, some .boolean, RX1, "isFitting")
abbrev mX1_fittingCards : aM := (cX1_fittingCards, 4, some .int, RX1, "fittingCards")
abbrev mX1_trueCards : aM := (cX1_trueCards, 5, some .int, RX1, "trueCards")
abbrev mX1_questionsFitted : aM := (cX1_questionsFitted, 4, some .int, RX1, "questionsFitted")
abbrev mX1_verdict : aM := (cX1_verdict, 2, some .int, RX1, "verdict")
abbrev mX1_answeredWith : aM := (cX1_answeredWith, 4, some .int, RX1, "answeredWith")
abbrev mX1_waysOfTruth : aM := (cX1_waysOfTruth, 3, some .int, RX1, "waysOfTruth")
abbrev mX1_cardFact : aM := (cX1_cardFact, 3, some .int, RX1, "cardFact")
abbrev mX1_questionFact : aM := (cX1_questionFact, 3, some .int, RX1, "questionFact")
abbrev mX1_markOf : aM := (cX1_markOf, 3, some .int, RX1, "markOf")
abbrev mX1_yesMeaning : aM := (cX1_yesMeaning, 4, some .int, RX1, "yesMeaning")
abbrev mX1_cardsOn : aM := (cX1_cardsOn, 4, some .int, RX1, "cardsOn")
abbrev mX1_placesSaying : aM := (cX1_placesSaying, 4, some .int, RX1, "placesSaying")
abbrev mX1_placesAmong : aM := (cX1_placesAmong, 3, some .int, RX1, "placesAmong")
abbrev mX1_pairsWith : aM := (cX1_pairsWith, 5, some .int, RX1, "pairsWith")
abbrev mX1_firstAlike : aM := (cX1_firstAlike, 6, some .int, RX1, "firstAlike")
abbrev mX1_cardsOfOn : aM := (cX1_cardsOfOn, 5, some .int, RX1, "cardsOfOn")
abbrev mX1_homeOf : aM := (cX1_homeOf, 6, some .int, RX1, "homeOf")
abbrev mX1_strayCards : aM := (cX1_strayCards, 3, some .int, RX1, "strayCards")
abbrev mX1_fewestMoved : aM := (cX1_fewestMoved, 3, some .int, RX1, "fewestMoved")
abbrev mX1_mostStaying : aM := (cX1_mostStaying, 7, some .int, RX1, "mostStaying")
abbrev mX1_layByAge : aM := (cX1_layByAge, 5, none, RX1, "layByAge")
abbrev mX1_cardByLot : aM := (cX1_cardByLot, 9, some .int, RX1, "cardByLot")
abbrev mX1_foldInto : aM := (cX1_foldInto, 7, some .long, RX1, "foldInto")
abbrev mX2_init : aM := (cX2_init, 1, none, RX2, "<init>")
abbrev mX2_countIn : aM := (cX2_countIn, 2, none, RX2, "countIn")
abbrev mX2_countAhead : aM := (cX2_countAhead, 5, none, RX2, "countAhead")
abbrev mX2_spreadAhead : aM := (cX2_spreadAhead, 7, none, RX2, "spreadAhead")
abbrev mX2_mostPairs : aM := (cX2_mostPairs, 3, some .int, RX2, "mostPairs")
abbrev mX2_countOn : aM := (cX2_countOn, 4, none, RX2, "countOn")
abbrev mX2_waysFrom : aM := (cX2_waysFrom, 7, some .int, RX2, "waysFrom")
abbrev mX2_countWith : aM := (cX2_countWith, 6, some .int, RX2, "countWith")
abbrev mX2_sureCard : aM := (cX2_sureCard, 3, some .int, RX2, "sureCard")
abbrev mX2_layFullest : aM := (cX2_layFullest, 5, none, RX2, "layFullest")
abbrev mX2_firstFullest : aM := (cX2_firstFullest, 5, some .int, RX2, "firstFullest")
abbrev mX2_layMostWished : aM := (cX2_layMostWished, 6, some .int, RX2, "layMostWished")
abbrev mX2_mostFrom : aM := (cX2_mostFrom, 8, some .int, RX2, "mostFrom")
abbrev mX2_firstWished : aM := (cX2_firstWished, 8, some .int, RX2, "firstWished")
abbrev mX3_init : aM := (cX3_init, 1, none, RX3, "<init>")
abbrev mX3_partBest : aM := (cX3_partBest, 4, none, RX3, "partBest")
abbrev mX3_countMeanings : aM := (cX3_countMeanings, 4, none, RX3, "countMeanings")
abbrev mX3_partFrom : aM := (cX3_partFrom, 7, none, RX3, "partFrom")
abbrev mX3_findIn : aM := (cX3_findIn, 4, none, RX3, "findIn")
abbrev mX3_fewestFor : aM := (cX3_fewestFor, 8, some .int, RX3, "fewestFor")
abbrev mX4_init : aM := (cX4_init, 2, none, RX4, "<init>")
abbrev mX4_isThere : aM := (cX4_isThere, 1, some .boolean, RX4, "isThere")
abbrev mX4_reaches : aM := (cX4_reaches, 2, some .boolean, RX4, "reaches")
abbrev mX4_holds : aM := (cX4_holds, 3, some .boolean, RX4, "holds")
abbrev mX4_begin : aM := (cX4_begin, 3, none, RX4, "begin")
abbrev mX4_layAt : aM := (cX4_layAt, 3, none, RX4, "layAt")
abbrev mX4_foldInto : aM := (cX4_foldInto, 6, some .long, RX4, "foldInto")
abbrev mX5_init : aM := (cX5_init, 1, none, RX5, "<init>")
abbrev mX5_begin : aM := (cX5_begin, 1, none, RX5, "begin")
abbrev mX5_questionOf : aM := (cX5_questionOf, 3, some .int, RX5, "questionOf")
abbrev mX5_addTaking : aM := (cX5_addTaking, 3, none, RX5, "addTaking")
abbrev mX5_goBack : aM := (cX5_goBack, 3, some .int, RX5, "goBack")
abbrev mX5_become : aM := (cX5_become, 2, none, RX5, "become")
abbrev mX6_init : aM := (cX6_init, 2, none, RX6, "<init>")
abbrev mX6_row : aM := (cX6_row, 3, some .int, RX6, "row")
abbrev mX6_lay : aM := (cX6_lay, 5, some .int, RX6, "lay")
abbrev mX6_at : aM := (cX6_at, 4, some .int, RX6, "at")
abbrev mX6_tear : aM := (cX6_tear, 2, some .int, RX6, "tear")
abbrev mX6_copy : aM := (cX6_copy, 6, some .int, RX6, "copy")
abbrev mX6_mean : aM := (cX6_mean, 6, some .int, RX6, "mean")
abbrev mX6_text : aM := (cX6_text, 3, some .int, RX6, "text")
abbrev mX6_put : aM := (cX6_put, 6, some .int, RX6, "put")
abbrev mX6_fault : aM := (cX6_fault, 2, some .int, RX6, "fault")
abbrev mX6_library : aM := (cX6_library, 4, some .int, RX6, "library")
abbrev mX6_card : aM := (cX6_card, 3, some .int, RX6, "card")
abbrev mX6_question : aM := (cX6_question, 3, some .int, RX6, "question")
abbrev mX6_mark : aM := (cX6_mark, 3, some .int, RX6, "mark")
abbrev mX6_shelve : aM := (cX6_shelve, 4, some .int, RX6, "shelve")
abbrev mX6_age : aM := (cX6_age, 4, some .int, RX6, "age")
abbrev mX6_truth : aM := (cX6_truth, 4, some .int, RX6, "truth")
abbrev mX6_fits : aM := (cX6_fits, 2, some .int, RX6, "fits")
abbrev mX6_take : aM := (cX6_take, 3, some .int, RX6, "take")
abbrev mX6_bring : aM := (cX6_bring, 3, some .int, RX6, "bring")
abbrev mX6_undo : aM := (cX6_undo, 2, some .int, RX6, "undo")
abbrev mX6_right : aM := (cX6_right, 1, some .int, RX6, "right")
abbrev mX6_keep : aM := (cX6_keep, 2, some .int, RX6, "keep")
abbrev mX6_on : aM := (cX6_on, 2, some .int, RX6, "on")
abbrev mX6_match : aM := (cX6_match, 2, some .int, RX6, "match")
abbrev mX6_wished : aM := (cX6_wished, 2, some .int, RX6, "wished")
abbrev mX6_fullest : aM := (cX6_fullest, 3, some .int, RX6, "fullest")
abbrev mX6_may : aM := (cX6_may, 4, some .int, RX6, "may")
abbrev mX6_sure : aM := (cX6_sure, 2, some .int, RX6, "sure")
abbrev mX6_test : aM := (cX6_test, 7, some .int, RX6, "test")
abbrev mX6_odds : aM := (cX6_odds, 3, some .int, RX6, "odds")
abbrev mX6_worlds : aM := (cX6_worlds, 3, some .int, RX6, "worlds")
abbrev mX6_never : aM := (cX6_never, 3, some .int, RX6, "never")
abbrev mX6_parts : aM := (cX6_parts, 1, some .int, RX6, "parts")
abbrev mX6_finds : aM := (cX6_finds, 2, some .int, RX6, "finds")
abbrev mX6_left : aM := (cX6_left, 6, some .int, RX6, "left")
abbrev mX6_forged : aM := (cX6_forged, 5, some .int, RX6, "forged")
abbrev mX6_beside : aM := (cX6_beside, 4, some .int, RX6, "beside")
abbrev mX6_habit : aM := (cX6_habit, 2, some .int, RX6, "habit")
abbrev mX6_order : aM := (cX6_order, 1, some .int, RX6, "order")
abbrev mX6_byAge : aM := (cX6_byAge, 2, some .int, RX6, "byAge")
abbrev mX6_lots : aM := (cX6_lots, 9, some .int, RX6, "lots")
abbrev mX6_asked : aM := (cX6_asked, 1, some .int, RX6, "asked")
abbrev mX6_upper : aM := (cX6_upper, 1, some .long, RX6, "upper")
abbrev mX6_lower : aM := (cX6_lower, 1, some .long, RX6, "lower")
abbrev mX6_count : aM := (cX6_count, 2, some .int, RX6, "count")
abbrev mX6_finding : aM := (cX6_finding, 1, some .int, RX6, "finding")
abbrev mX6_findings : aM := (cX6_findings, 2, some .int, RX6, "findings")
abbrev mX6_digest : aM := (cX6_digest, 4, some .long, RX6, "digest")
abbrev mX6_found : aM := (cX6_found, 2, some .int, RX6, "found")
abbrev mX6_tellChances : aM := (cX6_tellChances, 7, none, RX6, "tellChances")
abbrev mX6_keptThere : aM := (cX6_keptThere, 3, some .int, RX6, "keptThere")
abbrev mX6_thereAmong : aM := (cX6_thereAmong, 3, some .int, RX6, "thereAmong")
abbrev mX6_greatestShared : aM := (cX6_greatestShared, 11, some .long, RX6, "greatestShared")
abbrev mX6_isRow : aM := (cX6_isRow, 1, some .boolean, RX6, "isRow")
abbrev mX6_isText : aM := (cX6_isText, 1, some .boolean, RX6, "isText")
abbrev mX6_isPlaceKept : aM := (cX6_isPlaceKept, 1, some .boolean, RX6, "isPlaceKept")
abbrev mX7_init : aM := (cX7_init, 2, none, RX7, "<init>")
abbrev mX7_in : aM := (cX7_in, 6, some .boolean, RX7, "in")
abbrev mX7_found : aM := (cX7_found, 2, some .int, RX7, "found")
abbrev mX7_tell : aM := (cX7_tell, 2, some .int, RX7, "tell")
abbrev mX7_isRow : aM := (cX7_isRow, 1, some .boolean, RX7, "isRow")
abbrev mX7_isText : aM := (cX7_isText, 1, some .boolean, RX7, "isText")
abbrev mX7_row : aM := (cX7_row, 4, some .int, RX7, "row")
abbrev mX7_lay : aM := (cX7_lay, 5, some .int, RX7, "lay")
abbrev mX7_at : aM := (cX7_at, 3, some .int, RX7, "at")
abbrev mX7_tear : aM := (cX7_tear, 2, some .int, RX7, "tear")
abbrev mX7_copy : aM := (cX7_copy, 8, some .int, RX7, "copy")
abbrev mX7_mean : aM := (cX7_mean, 5, some .int, RX7, "mean")
abbrev mX7_text : aM := (cX7_text, 4, some .int, RX7, "text")
abbrev mX7_put : aM := (cX7_put, 5, some .int, RX7, "put")
abbrev mX7_kindOf : aM := (cX7_kindOf, 1, some .int, RX7, "kindOf")
abbrev mX7_byteAt : aM := (cX7_byteAt, 2, some .int, RX7, "byteAt")
abbrev mX7_takes : aM := (cX7_takes, 6, some .boolean, RX7, "takes")
abbrev mX7_takesCard : aM := (cX7_takesCard, 4, some .boolean, RX7, "takesCard")
abbrev mX7_takesQuestion : aM := (cX7_takesQuestion, 3, some .boolean, RX7, "takesQuestion")
abbrev mX7_reads : aM := (cX7_reads, 3, some .int, RX7, "reads")
abbrev mX7_fault : aM := (cX7_fault, 2, some .int, RX7, "fault")
abbrev mX7_copies : aM := (cX7_copies, 5, none, RX7, "copies")
abbrev mX7_library : aM := (cX7_library, 3, some .int, RX7, "library")
abbrev mX7_isCard : aM := (cX7_isCard, 2, some .boolean, RX7, "isCard")
abbrev mX7_isQuestion : aM := (cX7_isQuestion, 2, some .boolean, RX7, "isQuestion")
abbrev mX7_isOf : aM := (cX7_isOf, 2, some .boolean, RX7, "isOf")
abbrev mX7_means : aM := (cX7_means, 3, some .int, RX7, "means")
abbrev mX7_suits : aM := (cX7_suits, 5, some .boolean, RX7, "suits")
abbrev mX7_isFit : aM := (cX7_isFit, 3, some .boolean, RX7, "isFit")
abbrev mX7_answers : aM := (cX7_answers, 4, some .int, RX7, "answers")
abbrev mX7_toldCard : aM := (cX7_toldCard, 3, some .int, RX7, "toldCard")
abbrev mX7_card : aM := (cX7_card, 3, some .int, RX7, "card")
abbrev mX7_question : aM := (cX7_question, 3, some .int, RX7, "question")
abbrev mX7_mark : aM := (cX7_mark, 7, some .int, RX7, "mark")
abbrev mX7_puts : aM := (cX7_puts, 4, some .int, RX7, "puts")
abbrev mX7_shelve : aM := (cX7_shelve, 3, some .int, RX7, "shelve")
abbrev mX7_age : aM := (cX7_age, 3, some .int, RX7, "age")
abbrev mX7_truth : aM := (cX7_truth, 3, some .int, RX7, "truth")
abbrev mX7_fits : aM := (cX7_fits, 4, some .int, RX7, "fits")
abbrev mX7_isFreeCard : aM := (cX7_isFreeCard, 2, some .boolean, RX7, "isFreeCard")
abbrev mX7_isFree : aM := (cX7_isFree, 2, some .boolean, RX7, "isFree")
abbrev mX7_takesIt : aM := (cX7_takesIt, 5, none, RX7, "takesIt")
abbrev mX7_stands : aM := (cX7_stands, 2, some .int, RX7, "stands")
abbrev mX7_take : aM := (cX7_take, 3, some .int, RX7, "take")
abbrev mX7_bring : aM := (cX7_bring, 2, some .int, RX7, "bring")
abbrev mX7_undo : aM := (cX7_undo, 4, some .int, RX7, "undo")
abbrev mX7_standing : aM := (cX7_standing, 4, some .int, RX7, "standing")
abbrev mX7_right : aM := (cX7_right, 2, some .int, RX7, "right")
abbrev mX7_keep : aM := (cX7_keep, 2, some .int, RX7, "keep")
abbrev mX7_on : aM := (cX7_on, 2, some .int, RX7, "on")
abbrev mX7_mayMatch : aM := (cX7_mayMatch, 3, some .boolean, RX7, "mayMatch")
abbrev mX7_layMatchings : aM := (cX7_layMatchings, 9, none, RX7, "layMatchings")
abbrev mX7_counts : aM := (cX7_counts, 4, none, RX7, "counts")
abbrev mX7_laid : aM := (cX7_laid, 4, some .int, RX7, "laid")
abbrev mX7_match : aM := (cX7_match, 2, some .int, RX7, "match")
abbrev mX7_wished : aM := (cX7_wished, 2, some .int, RX7, "wished")
abbrev mX7_fullest : aM := (cX7_fullest, 3, some .int, RX7, "fullest")
abbrev mX7_may : aM := (cX7_may, 4, some .int, RX7, "may")
abbrev mX7_sure : aM := (cX7_sure, 4, some .int, RX7, "sure")
abbrev mX7_test : aM := (cX7_test, 5, some .int, RX7, "test")
abbrev mX7_odds : aM := (cX7_odds, 6, some .int, RX7, "odds")
abbrev mX7_worlds : aM := (cX7_worlds, 6, some .int, RX7, "worlds")
abbrev mX7_never : aM := (cX7_never, 5, some .int, RX7, "never")
abbrev mX7_manyFit : aM := (cX7_manyFit, 6, some .int, RX7, "manyFit")
abbrev mX7_parts : aM := (cX7_parts, 10, some .int, RX7, "parts")
abbrev mX7_isOne : aM := (cX7_isOne, 1, some .boolean, RX7, "isOne")
abbrev mX7_finds : aM := (cX7_finds, 9, some .int, RX7, "finds")
abbrev mX7_left : aM := (cX7_left, 6, some .int, RX7, "left")
abbrev mX7_forged : aM := (cX7_forged, 6, some .int, RX7, "forged")
abbrev mX7_lesser : aM := (cX7_lesser, 2, some .int, RX7, "lesser")
abbrev mX7_manyThere : aM := (cX7_manyThere, 7, some .int, RX7, "manyThere")
abbrev mX7_manyHere : aM := (cX7_manyHere, 5, some .int, RX7, "manyHere")
abbrev mX7_beside : aM := (cX7_beside, 6, some .int, RX7, "beside")
abbrev mX7_lying : aM := (cX7_lying, 5, some .int, RX7, "lying")
abbrev mX7_habit : aM := (cX7_habit, 6, some .int, RX7, "habit")
abbrev mX7_order : aM := (cX7_order, 9, some .int, RX7, "order")
abbrev mX7_byAge : aM := (cX7_byAge, 6, some .int, RX7, "byAge")
abbrev mX7_lots : aM := (cX7_lots, 11, some .int, RX7, "lots")
abbrev mX7_asked : aM := (cX7_asked, 1, some .int, RX7, "asked")
abbrev mX7_upper : aM := (cX7_upper, 1, some .long, RX7, "upper")
abbrev mX7_lower : aM := (cX7_lower, 1, some .long, RX7, "lower")
abbrev mX7_counted : aM := (cX7_counted, 4, some .int, RX7, "counted")
abbrev mX7_count : aM := (cX7_count, 2, some .int, RX7, "count")
abbrev mX7_finding : aM := (cX7_finding, 1, some .int, RX7, "finding")
abbrev mX7_findings : aM := (cX7_findings, 2, some .int, RX7, "findings")
abbrev mX7_digest : aM := (cX7_digest, 5, some .long, RX7, "digest")
abbrev mJ6_bitCount_0f7a4 : aM := (cJ6_bitCount_0f7a4, 1, some .int, RJ6, "bitCount")
abbrev mJ9_abs_0f7a4 : aM := (cJ9_abs_0f7a4, 1, some .int, RJ9, "abs")
abbrev mJ9_max_7cf53 : aM := (cJ9_max_7cf53, 2, some .int, RJ9, "max")
abbrev mJ9_min_7cf53 : aM := (cJ9_min_7cf53, 2, some .int, RJ9, "min")
abbrev mJ7_fill_53178 : aM := (cJ7_fill_53178, 4, none, RJ7, "fill")
theorem cb_10 : (Int8.ofInt (10)).toInt32 = (10 : Int32) := by decide +kernel
theorem cb_100 : (Int8.ofInt (100)).toInt32 = (100 : Int32) := by decide +kernel
theorem cb_110 : (Int8.ofInt (110)).toInt32 = (110 : Int32) := by decide +kernel
theorem cb_112 : (Int8.ofInt (112)).toInt32 = (112 : Int32) := by decide +kernel
theorem cb_113 : (Int8.ofInt (113)).toInt32 = (113 : Int32) := by decide +kernel
theorem cb_116 : (Int8.ofInt (116)).toInt32 = (116 : Int32) := by decide +kernel
theorem cb_118 : (Int8.ofInt (118)).toInt32 = (118 : Int32) := by decide +kernel
theorem cb_121 : (Int8.ofInt (121)).toInt32 = (121 : Int32) := by decide +kernel
theorem cb_16 : (Int8.ofInt (16)).toInt32 = (16 : Int32) := by decide +kernel
theorem cb_17 : (Int8.ofInt (17)).toInt32 = (17 : Int32) := by decide +kernel
theorem cb_20 : (Int8.ofInt (20)).toInt32 = (20 : Int32) := by decide +kernel
theorem cb_24 : (Int8.ofInt (24)).toInt32 = (24 : Int32) := by decide +kernel
theorem cb_31 : (Int8.ofInt (31)).toInt32 = (31 : Int32) := by decide +kernel
theorem cb_32 : (Int8.ofInt (32)).toInt32 = (32 : Int32) := by decide +kernel
theorem cb_38 : (Int8.ofInt (38)).toInt32 = (38 : Int32) := by decide +kernel
theorem cb_40 : (Int8.ofInt (40)).toInt32 = (40 : Int32) := by decide +kernel
theorem cb_45 : (Int8.ofInt (45)).toInt32 = (45 : Int32) := by decide +kernel
theorem cb_48 : (Int8.ofInt (48)).toInt32 = (48 : Int32) := by decide +kernel
theorem cb_49 : (Int8.ofInt (49)).toInt32 = (49 : Int32) := by decide +kernel
theorem cb_52 : (Int8.ofInt (52)).toInt32 = (52 : Int32) := by decide +kernel
theorem cb_59 : (Int8.ofInt (59)).toInt32 = (59 : Int32) := by decide +kernel
theorem cb_6 : (Int8.ofInt (6)).toInt32 = (6 : Int32) := by decide +kernel
theorem cb_60 : (Int8.ofInt (60)).toInt32 = (60 : Int32) := by decide +kernel
theorem cb_63 : (Int8.ofInt (63)).toInt32 = (63 : Int32) := by decide +kernel
theorem cb_64 : (Int8.ofInt (64)).toInt32 = (64 : Int32) := by decide +kernel
theorem cb_66 : (Int8.ofInt (66)).toInt32 = (66 : Int32) := by decide +kernel
theorem cb_7 : (Int8.ofInt (7)).toInt32 = (7 : Int32) := by decide +kernel
theorem cb_73 : (Int8.ofInt (73)).toInt32 = (73 : Int32) := by decide +kernel
theorem cb_8 : (Int8.ofInt (8)).toInt32 = (8 : Int32) := by decide +kernel
theorem cb_80 : (Int8.ofInt (80)).toInt32 = (80 : Int32) := by decide +kernel
theorem cb_9 : (Int8.ofInt (9)).toInt32 = (9 : Int32) := by decide +kernel
theorem cb_98 : (Int8.ofInt (98)).toInt32 = (98 : Int32) := by decide +kernel
theorem cb_99 : (Int8.ofInt (99)).toInt32 = (99 : Int32) := by decide +kernel
theorem cb_m2 : (Int8.ofInt (-2)).toInt32 = (-2 : Int32) := by decide +kernel
theorem cb_m3 : (Int8.ofInt (-3)).toInt32 = (-3 : Int32) := by decide +kernel
theorem cb_m4 : (Int8.ofInt (-4)).toInt32 = (-4 : Int32) := by decide +kernel
theorem cb_m9 : (Int8.ofInt (-9)).toInt32 = (-9 : Int32) := by decide +kernel
theorem ci_0 : Int32.ofInt (0) = (0 : Int32) := by decide +kernel
theorem ci_1 : Int32.ofInt (1) = (1 : Int32) := by decide +kernel
theorem ci_2 : Int32.ofInt (2) = (2 : Int32) := by decide +kernel
theorem ci_3 : Int32.ofInt (3) = (3 : Int32) := by decide +kernel
theorem ci_4 : Int32.ofInt (4) = (4 : Int32) := by decide +kernel
theorem ci_5 : Int32.ofInt (5) = (5 : Int32) := by decide +kernel
theorem ci_m1 : Int32.ofInt (-1) = (-1 : Int32) := by decide +kernel
theorem cl_0 : Int64.ofNat ((0 : Fin 2) : Nat) = (0 : Int64) := by decide +kernel
theorem cl_1 : Int64.ofNat ((1 : Fin 2) : Nat) = (1 : Int64) := by decide +kernel
theorem cs_1000 : (Int16.ofInt (1000)).toInt32 = (1000 : Int32) := by decide +kernel
theorem cs_128 : (Int16.ofInt (128)).toInt32 = (128 : Int32) := by decide +kernel
theorem cs_2401 : (Int16.ofInt (2401)).toInt32 = (2401 : Int32) := by decide +kernel
theorem cs_280 : (Int16.ofInt (280)).toInt32 = (280 : Int32) := by decide +kernel
theorem cs_393 : (Int16.ofInt (393)).toInt32 = (393 : Int32) := by decide +kernel
theorem cs_600 : (Int16.ofInt (600)).toInt32 = (600 : Int32) := by decide +kernel
theorem cs_m1000 : (Int16.ofInt (-1000)).toInt32 = (-1000 : Int32) := by decide +kernel
theorem cv_X1_101 : aCV RX1 101 yX1_isFreeQuestion 0 mX1_isFreeQuestion 1 := ⟨⟨TX1, 9, rfl⟩, am_mem 495 (by decide +kernel) rfl, am_mem 479 (by decide +kernel) rfl, am_mem 480 (by decide +kernel) rfl, am_mem 55 (by decide +kernel) rfl, am_mem 481 (by decide +kernel) rfl, by decide +kernel, by decide +kernel, by decide +kernel⟩
theorem cv_X1_108 : aCV RX1 108 yX1_meaningOf 0 mX1_meaningOf 1 := ⟨⟨TX1, 9, rfl⟩, am_mem 398 (by decide +kernel) rfl, am_mem 399 (by decide +kernel) rfl, am_mem 400 (by decide +kernel) rfl, am_mem 55 (by decide +kernel) rfl, am_mem 401 (by decide +kernel) rfl, by decide +kernel, by decide +kernel, by decide +kernel⟩
theorem cv_X1_115 : aCV RX1 115 yX1_isFitting 0 mX1_isFitting 2 := ⟨⟨TX1, 9, rfl⟩, am_mem 445 (by decide +kernel) rfl, am_mem 446 (by decide +kernel) rfl, am_mem 447 (by decide +kernel) rfl, am_mem 55 (by decide +kernel) rfl, am_mem 448 (by decide +kernel) rfl, by decide +kernel, by decide +kernel, by decide +kernel⟩
theorem cv_X1_121 : aCV RX1 121 yX1_verdict 0 mX1_verdict 1 := ⟨⟨TX1, 9, rfl⟩, am_mem 516 (by decide +kernel) rfl, am_mem 492 (by decide +kernel) rfl, am_mem 493 (by decide +kernel) rfl, am_mem 55 (by decide +kernel) rfl, am_mem 494 (by decide +kernel) rfl, by decide +kernel, by decide +kernel, by decide +kernel⟩
theorem cv_X1_124 : aCV RX1 124 yX1_yesMeaning 0 mX1_yesMeaning 1 := ⟨⟨TX1, 9, rfl⟩, am_mem 432 (by decide +kernel) rfl, am_mem 434 (by decide +kernel) rfl, am_mem 3 (by decide +kernel) rfl, am_mem 55 (by decide +kernel) rfl, am_mem 435 (by decide +kernel) rfl, by decide +kernel, by decide +kernel, by decide +kernel⟩
theorem cv_X1_127 : aCV RX1 127 yX1_cardsOn 0 mX1_cardsOn 1 := ⟨⟨TX1, 9, rfl⟩, am_mem 437 (by decide +kernel) rfl, am_mem 439 (by decide +kernel) rfl, am_mem 4 (by decide +kernel) rfl, am_mem 55 (by decide +kernel) rfl, am_mem 440 (by decide +kernel) rfl, by decide +kernel, by decide +kernel, by decide +kernel⟩
theorem cv_X1_130 : aCV RX1 130 yX1_questionsFitted 0 mX1_questionsFitted 1 := ⟨⟨TX1, 9, rfl⟩, am_mem 441 (by decide +kernel) rfl, am_mem 442 (by decide +kernel) rfl, am_mem 443 (by decide +kernel) rfl, am_mem 55 (by decide +kernel) rfl, am_mem 444 (by decide +kernel) rfl, by decide +kernel, by decide +kernel, by decide +kernel⟩
theorem cv_X1_133 : aCV RX1 133 yX1_placesSaying 0 mX1_placesSaying 1 := ⟨⟨TX1, 9, rfl⟩, am_mem 449 (by decide +kernel) rfl, am_mem 451 (by decide +kernel) rfl, am_mem 5 (by decide +kernel) rfl, am_mem 55 (by decide +kernel) rfl, am_mem 452 (by decide +kernel) rfl, by decide +kernel, by decide +kernel, by decide +kernel⟩
theorem cv_X1_136 : aCV RX1 136 yX1_firstAlike 0 mX1_firstAlike 3 := ⟨⟨TX1, 9, rfl⟩, am_mem 717 (by decide +kernel) rfl, am_mem 719 (by decide +kernel) rfl, am_mem 18 (by decide +kernel) rfl, am_mem 55 (by decide +kernel) rfl, am_mem 720 (by decide +kernel) rfl, by decide +kernel, by decide +kernel, by decide +kernel⟩
theorem cv_X1_145 : aCV RX1 145 yX1_cardsOfOn 0 mX1_cardsOfOn 2 := ⟨⟨TX1, 9, rfl⟩, am_mem 734 (by decide +kernel) rfl, am_mem 736 (by decide +kernel) rfl, am_mem 20 (by decide +kernel) rfl, am_mem 55 (by decide +kernel) rfl, am_mem 737 (by decide +kernel) rfl, by decide +kernel, by decide +kernel, by decide +kernel⟩
theorem cv_X1_148 : aCV RX1 148 yX1_homeOf 0 mX1_homeOf 1 := ⟨⟨TX1, 9, rfl⟩, am_mem 730 (by decide +kernel) rfl, am_mem 732 (by decide +kernel) rfl, am_mem 19 (by decide +kernel) rfl, am_mem 55 (by decide +kernel) rfl, am_mem 733 (by decide +kernel) rfl, by decide +kernel, by decide +kernel, by decide +kernel⟩
theorem cv_X1_155 : aCV RX1 155 yX4_begin 3 mX4_begin 2 := ⟨⟨TX4, 2, rfl⟩, am_mem 758 (by decide +kernel) rfl, am_mem 300 (by decide +kernel) rfl, am_mem 301 (by decide +kernel) rfl, am_mem 58 (by decide +kernel) rfl, am_mem 302 (by decide +kernel) rfl, by decide +kernel, by decide +kernel, by decide +kernel⟩
theorem cv_X1_158 : aCV RX1 158 yX4_layAt 3 mX4_layAt 2 := ⟨⟨TX4, 2, rfl⟩, am_mem 759 (by decide +kernel) rfl, am_mem 591 (by decide +kernel) rfl, am_mem 592 (by decide +kernel) rfl, am_mem 58 (by decide +kernel) rfl, am_mem 593 (by decide +kernel) rfl, by decide +kernel, by decide +kernel, by decide +kernel⟩
theorem cv_X1_161 : aCV RX1 161 yX1_fittingCards 0 mX1_fittingCards 1 := ⟨⟨TX1, 9, rfl⟩, am_mem 772 (by decide +kernel) rfl, am_mem 470 (by decide +kernel) rfl, am_mem 471 (by decide +kernel) rfl, am_mem 55 (by decide +kernel) rfl, am_mem 472 (by decide +kernel) rfl, by decide +kernel, by decide +kernel, by decide +kernel⟩
theorem cv_X1_164 : aCV RX1 164 yX1_freeCards 0 mX1_freeCards 0 := ⟨⟨TX1, 9, rfl⟩, am_mem 773 (by decide +kernel) rfl, am_mem 545 (by decide +kernel) rfl, am_mem 546 (by decide +kernel) rfl, am_mem 55 (by decide +kernel) rfl, am_mem 547 (by decide +kernel) rfl, by decide +kernel, by decide +kernel, by decide +kernel⟩
theorem cv_X1_169 : aCV RX1 169 yX1_cardFact 0 mX1_cardFact 2 := ⟨⟨TX1, 9, rfl⟩, am_mem 825 (by decide +kernel) rfl, am_mem 395 (by decide +kernel) rfl, am_mem 396 (by decide +kernel) rfl, am_mem 55 (by decide +kernel) rfl, am_mem 397 (by decide +kernel) rfl, by decide +kernel, by decide +kernel, by decide +kernel⟩
theorem cv_X1_172 : aCV RX1 172 yX1_questionFact 0 mX1_questionFact 2 := ⟨⟨TX1, 9, rfl⟩, am_mem 826 (by decide +kernel) rfl, am_mem 418 (by decide +kernel) rfl, am_mem 419 (by decide +kernel) rfl, am_mem 55 (by decide +kernel) rfl, am_mem 420 (by decide +kernel) rfl, by decide +kernel, by decide +kernel, by decide +kernel⟩
theorem cv_X1_44 : aCV RX1 44 yX5_begin 4 mX5_begin 0 := ⟨⟨TX5, 7, rfl⟩, am_mem 186 (by decide +kernel) rfl, am_mem 187 (by decide +kernel) rfl, am_mem 188 (by decide +kernel) rfl, am_mem 56 (by decide +kernel) rfl, am_mem 189 (by decide +kernel) rfl, by decide +kernel, by decide +kernel, by decide +kernel⟩
theorem cv_X1_56 : aCV RX1 56 yX4_reaches 3 mX4_reaches 1 := ⟨⟨TX4, 2, rfl⟩, am_mem 364 (by decide +kernel) rfl, am_mem 316 (by decide +kernel) rfl, am_mem 317 (by decide +kernel) rfl, am_mem 58 (by decide +kernel) rfl, am_mem 318 (by decide +kernel) rfl, by decide +kernel, by decide +kernel, by decide +kernel⟩
theorem cv_X1_63 : aCV RX1 63 yX1_readQuestion 0 mX1_readQuestion 2 := ⟨⟨TX1, 9, rfl⟩, am_mem 365 (by decide +kernel) rfl, am_mem 367 (by decide +kernel) rfl, am_mem 1 (by decide +kernel) rfl, am_mem 55 (by decide +kernel) rfl, am_mem 368 (by decide +kernel) rfl, by decide +kernel, by decide +kernel, by decide +kernel⟩
theorem cv_X1_66 : aCV RX1 66 yX1_readCard 0 mX1_readCard 2 := ⟨⟨TX1, 9, rfl⟩, am_mem 373 (by decide +kernel) rfl, am_mem 375 (by decide +kernel) rfl, am_mem 2 (by decide +kernel) rfl, am_mem 55 (by decide +kernel) rfl, am_mem 376 (by decide +kernel) rfl, by decide +kernel, by decide +kernel, by decide +kernel⟩
theorem cv_X1_91 : aCV RX1 91 yX5_questionOf 4 mX5_questionOf 1 := ⟨⟨TX5, 7, rfl⟩, am_mem 405 (by decide +kernel) rfl, am_mem 406 (by decide +kernel) rfl, am_mem 407 (by decide +kernel) rfl, am_mem 56 (by decide +kernel) rfl, am_mem 408 (by decide +kernel) rfl, by decide +kernel, by decide +kernel, by decide +kernel⟩
theorem cv_X1_97 : aCV RX1 97 yX1_allCards 0 mX1_allCards 0 := ⟨⟨TX1, 9, rfl⟩, am_mem 548 (by decide +kernel) rfl, am_mem 549 (by decide +kernel) rfl, am_mem 550 (by decide +kernel) rfl, am_mem 55 (by decide +kernel) rfl, am_mem 551 (by decide +kernel) rfl, by decide +kernel, by decide +kernel, by decide +kernel⟩
theorem cv_X2_105 : aCV RX2 105 yX2_mostFrom 1 mX2_mostFrom 3 := ⟨⟨TX2, 8, rfl⟩, am_mem 603 (by decide +kernel) rfl, am_mem 605 (by decide +kernel) rfl, am_mem 12 (by decide +kernel) rfl, am_mem 53 (by decide +kernel) rfl, am_mem 606 (by decide +kernel) rfl, by decide +kernel, by decide +kernel, by decide +kernel⟩
theorem cv_X2_109 : aCV RX2 109 yX2_firstWished 1 mX2_firstWished 3 := ⟨⟨TX2, 8, rfl⟩, am_mem 607 (by decide +kernel) rfl, am_mem 609 (by decide +kernel) rfl, am_mem 13 (by decide +kernel) rfl, am_mem 53 (by decide +kernel) rfl, am_mem 610 (by decide +kernel) rfl, by decide +kernel, by decide +kernel, by decide +kernel⟩
theorem cv_X2_37 : aCV RX2 37 yX2_countAhead 1 mX2_countAhead 1 := ⟨⟨TX2, 8, rfl⟩, am_mem 540 (by decide +kernel) rfl, am_mem 542 (by decide +kernel) rfl, am_mem 6 (by decide +kernel) rfl, am_mem 53 (by decide +kernel) rfl, am_mem 543 (by decide +kernel) rfl, by decide +kernel, by decide +kernel, by decide +kernel⟩
theorem cv_X2_41 : aCV RX2 41 yX2_mostPairs 1 mX2_mostPairs 0 := ⟨⟨TX2, 8, rfl⟩, am_mem 562 (by decide +kernel) rfl, am_mem 564 (by decide +kernel) rfl, am_mem 8 (by decide +kernel) rfl, am_mem 53 (by decide +kernel) rfl, am_mem 565 (by decide +kernel) rfl, by decide +kernel, by decide +kernel, by decide +kernel⟩
theorem cv_X2_45 : aCV RX2 45 yX2_countOn 1 mX2_countOn 0 := ⟨⟨TX2, 8, rfl⟩, am_mem 573 (by decide +kernel) rfl, am_mem 575 (by decide +kernel) rfl, am_mem 9 (by decide +kernel) rfl, am_mem 53 (by decide +kernel) rfl, am_mem 576 (by decide +kernel) rfl, by decide +kernel, by decide +kernel, by decide +kernel⟩
theorem cv_X2_52 : aCV RX2 52 yX1_freeCards 0 mX1_freeCards 0 := ⟨⟨TX1, 9, rfl⟩, am_mem 544 (by decide +kernel) rfl, am_mem 545 (by decide +kernel) rfl, am_mem 546 (by decide +kernel) rfl, am_mem 55 (by decide +kernel) rfl, am_mem 547 (by decide +kernel) rfl, by decide +kernel, by decide +kernel, by decide +kernel⟩
theorem cv_X2_61 : aCV RX2 61 yX1_isFreeQuestion 0 mX1_isFreeQuestion 1 := ⟨⟨TX1, 9, rfl⟩, am_mem 553 (by decide +kernel) rfl, am_mem 479 (by decide +kernel) rfl, am_mem 480 (by decide +kernel) rfl, am_mem 55 (by decide +kernel) rfl, am_mem 481 (by decide +kernel) rfl, by decide +kernel, by decide +kernel, by decide +kernel⟩
theorem cv_X2_65 : aCV RX2 65 yX1_trueCards 0 mX1_trueCards 1 := ⟨⟨TX1, 9, rfl⟩, am_mem 554 (by decide +kernel) rfl, am_mem 555 (by decide +kernel) rfl, am_mem 556 (by decide +kernel) rfl, am_mem 55 (by decide +kernel) rfl, am_mem 557 (by decide +kernel) rfl, by decide +kernel, by decide +kernel, by decide +kernel⟩
theorem cv_X2_69 : aCV RX2 69 yX2_spreadAhead 1 mX2_spreadAhead 3 := ⟨⟨TX2, 8, rfl⟩, am_mem 558 (by decide +kernel) rfl, am_mem 560 (by decide +kernel) rfl, am_mem 7 (by decide +kernel) rfl, am_mem 53 (by decide +kernel) rfl, am_mem 561 (by decide +kernel) rfl, by decide +kernel, by decide +kernel, by decide +kernel⟩
theorem cv_X2_84 : aCV RX2 84 yX2_waysFrom 1 mX2_waysFrom 2 := ⟨⟨TX2, 8, rfl⟩, am_mem 577 (by decide +kernel) rfl, am_mem 579 (by decide +kernel) rfl, am_mem 10 (by decide +kernel) rfl, am_mem 53 (by decide +kernel) rfl, am_mem 580 (by decide +kernel) rfl, by decide +kernel, by decide +kernel, by decide +kernel⟩
theorem cv_X2_87 : aCV RX2 87 yX2_countWith 1 mX2_countWith 2 := ⟨⟨TX2, 8, rfl⟩, am_mem 619 (by decide +kernel) rfl, am_mem 620 (by decide +kernel) rfl, am_mem 621 (by decide +kernel) rfl, am_mem 53 (by decide +kernel) rfl, am_mem 622 (by decide +kernel) rfl, by decide +kernel, by decide +kernel, by decide +kernel⟩
theorem cv_X2_90 : aCV RX2 90 yX4_begin 3 mX4_begin 2 := ⟨⟨TX4, 2, rfl⟩, am_mem 585 (by decide +kernel) rfl, am_mem 300 (by decide +kernel) rfl, am_mem 301 (by decide +kernel) rfl, am_mem 58 (by decide +kernel) rfl, am_mem 302 (by decide +kernel) rfl, by decide +kernel, by decide +kernel, by decide +kernel⟩
theorem cv_X2_96 : aCV RX2 96 yX2_firstFullest 1 mX2_firstFullest 2 := ⟨⟨TX2, 8, rfl⟩, am_mem 586 (by decide +kernel) rfl, am_mem 588 (by decide +kernel) rfl, am_mem 11 (by decide +kernel) rfl, am_mem 53 (by decide +kernel) rfl, am_mem 589 (by decide +kernel) rfl, by decide +kernel, by decide +kernel, by decide +kernel⟩
theorem cv_X2_99 : aCV RX2 99 yX4_layAt 3 mX4_layAt 2 := ⟨⟨TX4, 2, rfl⟩, am_mem 590 (by decide +kernel) rfl, am_mem 591 (by decide +kernel) rfl, am_mem 592 (by decide +kernel) rfl, am_mem 58 (by decide +kernel) rfl, am_mem 593 (by decide +kernel) rfl, by decide +kernel, by decide +kernel, by decide +kernel⟩
theorem cv_X3_37 : aCV RX3 37 yX3_countMeanings 2 mX3_countMeanings 2 := ⟨⟨TX3, 7, rfl⟩, am_mem 670 (by decide +kernel) rfl, am_mem 672 (by decide +kernel) rfl, am_mem 15 (by decide +kernel) rfl, am_mem 54 (by decide +kernel) rfl, am_mem 673 (by decide +kernel) rfl, by decide +kernel, by decide +kernel, by decide +kernel⟩
theorem cv_X3_46 : aCV RX3 46 yX3_partFrom 2 mX3_partFrom 3 := ⟨⟨TX3, 7, rfl⟩, am_mem 677 (by decide +kernel) rfl, am_mem 679 (by decide +kernel) rfl, am_mem 16 (by decide +kernel) rfl, am_mem 54 (by decide +kernel) rfl, am_mem 680 (by decide +kernel) rfl, by decide +kernel, by decide +kernel, by decide +kernel⟩
theorem cv_X3_65 : aCV RX3 65 yX1_meaningOf 0 mX1_meaningOf 1 := ⟨⟨TX1, 9, rfl⟩, am_mem 676 (by decide +kernel) rfl, am_mem 399 (by decide +kernel) rfl, am_mem 400 (by decide +kernel) rfl, am_mem 55 (by decide +kernel) rfl, am_mem 401 (by decide +kernel) rfl, by decide +kernel, by decide +kernel, by decide +kernel⟩
theorem cv_X3_77 : aCV RX3 77 yX1_fittingCards 0 mX1_fittingCards 1 := ⟨⟨TX1, 9, rfl⟩, am_mem 692 (by decide +kernel) rfl, am_mem 470 (by decide +kernel) rfl, am_mem 471 (by decide +kernel) rfl, am_mem 55 (by decide +kernel) rfl, am_mem 472 (by decide +kernel) rfl, by decide +kernel, by decide +kernel, by decide +kernel⟩
theorem cv_X3_80 : aCV RX3 80 yX3_fewestFor 2 mX3_fewestFor 2 := ⟨⟨TX3, 7, rfl⟩, am_mem 693 (by decide +kernel) rfl, am_mem 695 (by decide +kernel) rfl, am_mem 17 (by decide +kernel) rfl, am_mem 54 (by decide +kernel) rfl, am_mem 696 (by decide +kernel) rfl, by decide +kernel, by decide +kernel, by decide +kernel⟩
theorem cv_X4_34 : aCV RX4 34 yX4_reaches 3 mX4_reaches 1 := ⟨⟨TX4, 2, rfl⟩, am_mem 594 (by decide +kernel) rfl, am_mem 316 (by decide +kernel) rfl, am_mem 317 (by decide +kernel) rfl, am_mem 58 (by decide +kernel) rfl, am_mem 318 (by decide +kernel) rfl, by decide +kernel, by decide +kernel, by decide +kernel⟩
theorem cv_X6_108 : aCV RX6 108 yX1_readFrom 0 mX1_readFrom 1 := ⟨⟨TX1, 9, rfl⟩, am_mem 357 (by decide +kernel) rfl, am_mem 358 (by decide +kernel) rfl, am_mem 359 (by decide +kernel) rfl, am_mem 55 (by decide +kernel) rfl, am_mem 360 (by decide +kernel) rfl, by decide +kernel, by decide +kernel, by decide +kernel⟩
theorem cv_X6_118 : aCV RX6 118 yX1_isCard 0 mX1_isCard 1 := ⟨⟨TX1, 9, rfl⟩, am_mem 390 (by decide +kernel) rfl, am_mem 391 (by decide +kernel) rfl, am_mem 392 (by decide +kernel) rfl, am_mem 55 (by decide +kernel) rfl, am_mem 393 (by decide +kernel) rfl, by decide +kernel, by decide +kernel, by decide +kernel⟩
theorem cv_X6_121 : aCV RX6 121 yX1_cardFact 0 mX1_cardFact 2 := ⟨⟨TX1, 9, rfl⟩, am_mem 394 (by decide +kernel) rfl, am_mem 395 (by decide +kernel) rfl, am_mem 396 (by decide +kernel) rfl, am_mem 55 (by decide +kernel) rfl, am_mem 397 (by decide +kernel) rfl, by decide +kernel, by decide +kernel, by decide +kernel⟩
theorem cv_X6_125 : aCV RX6 125 yX1_isQuestion 0 mX1_isQuestion 1 := ⟨⟨TX1, 9, rfl⟩, am_mem 413 (by decide +kernel) rfl, am_mem 414 (by decide +kernel) rfl, am_mem 415 (by decide +kernel) rfl, am_mem 55 (by decide +kernel) rfl, am_mem 416 (by decide +kernel) rfl, by decide +kernel, by decide +kernel, by decide +kernel⟩
theorem cv_X6_128 : aCV RX6 128 yX1_questionFact 0 mX1_questionFact 2 := ⟨⟨TX1, 9, rfl⟩, am_mem 417 (by decide +kernel) rfl, am_mem 418 (by decide +kernel) rfl, am_mem 419 (by decide +kernel) rfl, am_mem 55 (by decide +kernel) rfl, am_mem 420 (by decide +kernel) rfl, by decide +kernel, by decide +kernel, by decide +kernel⟩
theorem cv_X6_139 : aCV RX6 139 yX1_markOf 0 mX1_markOf 2 := ⟨⟨TX1, 9, rfl⟩, am_mem 428 (by decide +kernel) rfl, am_mem 429 (by decide +kernel) rfl, am_mem 430 (by decide +kernel) rfl, am_mem 55 (by decide +kernel) rfl, am_mem 431 (by decide +kernel) rfl, by decide +kernel, by decide +kernel, by decide +kernel⟩
theorem cv_X6_155 : aCV RX6 155 yX1_fittingCards 0 mX1_fittingCards 1 := ⟨⟨TX1, 9, rfl⟩, am_mem 469 (by decide +kernel) rfl, am_mem 470 (by decide +kernel) rfl, am_mem 471 (by decide +kernel) rfl, am_mem 55 (by decide +kernel) rfl, am_mem 472 (by decide +kernel) rfl, by decide +kernel, by decide +kernel, by decide +kernel⟩
theorem cv_X6_158 : aCV RX6 158 yX1_isFitting 0 mX1_isFitting 2 := ⟨⟨TX1, 9, rfl⟩, am_mem 477 (by decide +kernel) rfl, am_mem 446 (by decide +kernel) rfl, am_mem 447 (by decide +kernel) rfl, am_mem 55 (by decide +kernel) rfl, am_mem 448 (by decide +kernel) rfl, by decide +kernel, by decide +kernel, by decide +kernel⟩
theorem cv_X6_161 : aCV RX6 161 yX1_isFreeQuestion 0 mX1_isFreeQuestion 1 := ⟨⟨TX1, 9, rfl⟩, am_mem 478 (by decide +kernel) rfl, am_mem 479 (by decide +kernel) rfl, am_mem 480 (by decide +kernel) rfl, am_mem 55 (by decide +kernel) rfl, am_mem 481 (by decide +kernel) rfl, by decide +kernel, by decide +kernel, by decide +kernel⟩
theorem cv_X6_164 : aCV RX6 164 yX1_isFreeCard 0 mX1_isFreeCard 1 := ⟨⟨TX1, 9, rfl⟩, am_mem 482 (by decide +kernel) rfl, am_mem 483 (by decide +kernel) rfl, am_mem 484 (by decide +kernel) rfl, am_mem 55 (by decide +kernel) rfl, am_mem 485 (by decide +kernel) rfl, by decide +kernel, by decide +kernel, by decide +kernel⟩
theorem cv_X6_167 : aCV RX6 167 yX5_addTaking 4 mX5_addTaking 2 := ⟨⟨TX5, 7, rfl⟩, am_mem 486 (by decide +kernel) rfl, am_mem 487 (by decide +kernel) rfl, am_mem 488 (by decide +kernel) rfl, am_mem 56 (by decide +kernel) rfl, am_mem 489 (by decide +kernel) rfl, by decide +kernel, by decide +kernel, by decide +kernel⟩
theorem cv_X6_170 : aCV RX6 170 yX1_verdict 0 mX1_verdict 1 := ⟨⟨TX1, 9, rfl⟩, am_mem 491 (by decide +kernel) rfl, am_mem 492 (by decide +kernel) rfl, am_mem 493 (by decide +kernel) rfl, am_mem 55 (by decide +kernel) rfl, am_mem 494 (by decide +kernel) rfl, by decide +kernel, by decide +kernel, by decide +kernel⟩
theorem cv_X6_176 : aCV RX6 176 yX5_goBack 4 mX5_goBack 1 := ⟨⟨TX5, 7, rfl⟩, am_mem 504 (by decide +kernel) rfl, am_mem 505 (by decide +kernel) rfl, am_mem 506 (by decide +kernel) rfl, am_mem 56 (by decide +kernel) rfl, am_mem 507 (by decide +kernel) rfl, by decide +kernel, by decide +kernel, by decide +kernel⟩
theorem cv_X6_179 : aCV RX6 179 yX1_answeredWith 0 mX1_answeredWith 1 := ⟨⟨TX1, 9, rfl⟩, am_mem 512 (by decide +kernel) rfl, am_mem 513 (by decide +kernel) rfl, am_mem 514 (by decide +kernel) rfl, am_mem 55 (by decide +kernel) rfl, am_mem 515 (by decide +kernel) rfl, by decide +kernel, by decide +kernel, by decide +kernel⟩
theorem cv_X6_185 : aCV RX6 185 yX5_become 4 mX5_become 1 := ⟨⟨TX5, 7, rfl⟩, am_mem 524 (by decide +kernel) rfl, am_mem 525 (by decide +kernel) rfl, am_mem 526 (by decide +kernel) rfl, am_mem 56 (by decide +kernel) rfl, am_mem 527 (by decide +kernel) rfl, by decide +kernel, by decide +kernel, by decide +kernel⟩
theorem cv_X6_189 : aCV RX6 189 yX2_countIn 1 mX2_countIn 1 := ⟨⟨TX2, 8, rfl⟩, am_mem 536 (by decide +kernel) rfl, am_mem 537 (by decide +kernel) rfl, am_mem 538 (by decide +kernel) rfl, am_mem 53 (by decide +kernel) rfl, am_mem 539 (by decide +kernel) rfl, by decide +kernel, by decide +kernel, by decide +kernel⟩
theorem cv_X6_193 : aCV RX6 193 yX2_layFullest 1 mX2_layFullest 1 := ⟨⟨TX2, 8, rfl⟩, am_mem 581 (by decide +kernel) rfl, am_mem 582 (by decide +kernel) rfl, am_mem 583 (by decide +kernel) rfl, am_mem 53 (by decide +kernel) rfl, am_mem 584 (by decide +kernel) rfl, by decide +kernel, by decide +kernel, by decide +kernel⟩
theorem cv_X6_200 : aCV RX6 200 yX2_layMostWished 1 mX2_layMostWished 2 := ⟨⟨TX2, 8, rfl⟩, am_mem 599 (by decide +kernel) rfl, am_mem 600 (by decide +kernel) rfl, am_mem 601 (by decide +kernel) rfl, am_mem 53 (by decide +kernel) rfl, am_mem 602 (by decide +kernel) rfl, by decide +kernel, by decide +kernel, by decide +kernel⟩
theorem cv_X6_207 : aCV RX6 207 yX2_sureCard 1 mX2_sureCard 1 := ⟨⟨TX2, 8, rfl⟩, am_mem 615 (by decide +kernel) rfl, am_mem 616 (by decide +kernel) rfl, am_mem 617 (by decide +kernel) rfl, am_mem 53 (by decide +kernel) rfl, am_mem 618 (by decide +kernel) rfl, by decide +kernel, by decide +kernel, by decide +kernel⟩
theorem cv_X6_213 : aCV RX6 213 yX2_countWith 1 mX2_countWith 2 := ⟨⟨TX2, 8, rfl⟩, am_mem 627 (by decide +kernel) rfl, am_mem 620 (by decide +kernel) rfl, am_mem 621 (by decide +kernel) rfl, am_mem 53 (by decide +kernel) rfl, am_mem 622 (by decide +kernel) rfl, by decide +kernel, by decide +kernel, by decide +kernel⟩
theorem cv_X6_221 : aCV RX6 221 yX6_tellChances 5 mX6_tellChances 2 := ⟨⟨TX6, 12, rfl⟩, am_mem 641 (by decide +kernel) rfl, am_mem 643 (by decide +kernel) rfl, am_mem 14 (by decide +kernel) rfl, am_mem 52 (by decide +kernel) rfl, am_mem 644 (by decide +kernel) rfl, by decide +kernel, by decide +kernel, by decide +kernel⟩
theorem cv_X6_225 : aCV RX6 225 yX1_waysOfTruth 0 mX1_waysOfTruth 1 := ⟨⟨TX1, 9, rfl⟩, am_mem 652 (by decide +kernel) rfl, am_mem 653 (by decide +kernel) rfl, am_mem 654 (by decide +kernel) rfl, am_mem 55 (by decide +kernel) rfl, am_mem 655 (by decide +kernel) rfl, by decide +kernel, by decide +kernel, by decide +kernel⟩
theorem cv_X6_228 : aCV RX6 228 yX1_trueCards 0 mX1_trueCards 1 := ⟨⟨TX1, 9, rfl⟩, am_mem 660 (by decide +kernel) rfl, am_mem 555 (by decide +kernel) rfl, am_mem 556 (by decide +kernel) rfl, am_mem 55 (by decide +kernel) rfl, am_mem 557 (by decide +kernel) rfl, by decide +kernel, by decide +kernel, by decide +kernel⟩
theorem cv_X6_231 : aCV RX6 231 yX3_partBest 2 mX3_partBest 1 := ⟨⟨TX3, 7, rfl⟩, am_mem 665 (by decide +kernel) rfl, am_mem 666 (by decide +kernel) rfl, am_mem 667 (by decide +kernel) rfl, am_mem 54 (by decide +kernel) rfl, am_mem 668 (by decide +kernel) rfl, by decide +kernel, by decide +kernel, by decide +kernel⟩
theorem cv_X6_240 : aCV RX6 240 yX3_findIn 2 mX3_findIn 2 := ⟨⟨TX3, 7, rfl⟩, am_mem 688 (by decide +kernel) rfl, am_mem 689 (by decide +kernel) rfl, am_mem 690 (by decide +kernel) rfl, am_mem 54 (by decide +kernel) rfl, am_mem 691 (by decide +kernel) rfl, by decide +kernel, by decide +kernel, by decide +kernel⟩
theorem cv_X6_247 : aCV RX6 247 yX1_allCards 0 mX1_allCards 0 := ⟨⟨TX1, 9, rfl⟩, am_mem 703 (by decide +kernel) rfl, am_mem 549 (by decide +kernel) rfl, am_mem 550 (by decide +kernel) rfl, am_mem 55 (by decide +kernel) rfl, am_mem 551 (by decide +kernel) rfl, by decide +kernel, by decide +kernel, by decide +kernel⟩
theorem cv_X6_251 : aCV RX6 251 yX1_questionsFitted 0 mX1_questionsFitted 1 := ⟨⟨TX1, 9, rfl⟩, am_mem 708 (by decide +kernel) rfl, am_mem 442 (by decide +kernel) rfl, am_mem 443 (by decide +kernel) rfl, am_mem 55 (by decide +kernel) rfl, am_mem 444 (by decide +kernel) rfl, by decide +kernel, by decide +kernel, by decide +kernel⟩
theorem cv_X6_254 : aCV RX6 254 yX1_pairsWith 0 mX1_pairsWith 2 := ⟨⟨TX1, 9, rfl⟩, am_mem 713 (by decide +kernel) rfl, am_mem 714 (by decide +kernel) rfl, am_mem 715 (by decide +kernel) rfl, am_mem 55 (by decide +kernel) rfl, am_mem 716 (by decide +kernel) rfl, by decide +kernel, by decide +kernel, by decide +kernel⟩
theorem cv_X6_258 : aCV RX6 258 yX1_strayCards 0 mX1_strayCards 0 := ⟨⟨TX1, 9, rfl⟩, am_mem 726 (by decide +kernel) rfl, am_mem 727 (by decide +kernel) rfl, am_mem 728 (by decide +kernel) rfl, am_mem 55 (by decide +kernel) rfl, am_mem 729 (by decide +kernel) rfl, by decide +kernel, by decide +kernel, by decide +kernel⟩
theorem cv_X6_266 : aCV RX6 266 yX1_fewestMoved 0 mX1_fewestMoved 0 := ⟨⟨TX1, 9, rfl⟩, am_mem 743 (by decide +kernel) rfl, am_mem 744 (by decide +kernel) rfl, am_mem 745 (by decide +kernel) rfl, am_mem 55 (by decide +kernel) rfl, am_mem 746 (by decide +kernel) rfl, by decide +kernel, by decide +kernel, by decide +kernel⟩
theorem cv_X6_269 : aCV RX6 269 yX1_layByAge 0 mX1_layByAge 1 := ⟨⟨TX1, 9, rfl⟩, am_mem 754 (by decide +kernel) rfl, am_mem 755 (by decide +kernel) rfl, am_mem 756 (by decide +kernel) rfl, am_mem 55 (by decide +kernel) rfl, am_mem 757 (by decide +kernel) rfl, by decide +kernel, by decide +kernel, by decide +kernel⟩
theorem cv_X6_279 : aCV RX6 279 yX1_cardByLot 0 mX1_cardByLot 2 := ⟨⟨TX1, 9, rfl⟩, am_mem 768 (by decide +kernel) rfl, am_mem 769 (by decide +kernel) rfl, am_mem 770 (by decide +kernel) rfl, am_mem 55 (by decide +kernel) rfl, am_mem 771 (by decide +kernel) rfl, by decide +kernel, by decide +kernel, by decide +kernel⟩
theorem cv_X6_283 : aCV RX6 283 yX1_answered 0 mX1_answered 0 := ⟨⟨TX1, 9, rfl⟩, am_mem 790 (by decide +kernel) rfl, am_mem 791 (by decide +kernel) rfl, am_mem 792 (by decide +kernel) rfl, am_mem 55 (by decide +kernel) rfl, am_mem 793 (by decide +kernel) rfl, by decide +kernel, by decide +kernel, by decide +kernel⟩
theorem cv_X6_286 : aCV RX6 286 yX1_placesAmong 0 mX1_placesAmong 0 := ⟨⟨TX1, 9, rfl⟩, am_mem 794 (by decide +kernel) rfl, am_mem 795 (by decide +kernel) rfl, am_mem 796 (by decide +kernel) rfl, am_mem 55 (by decide +kernel) rfl, am_mem 797 (by decide +kernel) rfl, by decide +kernel, by decide +kernel, by decide +kernel⟩
theorem cv_X6_293 : aCV RX6 293 yX6_keptThere 5 mX6_keptThere 0 := ⟨⟨TX6, 12, rfl⟩, am_mem 801 (by decide +kernel) rfl, am_mem 803 (by decide +kernel) rfl, am_mem 21 (by decide +kernel) rfl, am_mem 52 (by decide +kernel) rfl, am_mem 804 (by decide +kernel) rfl, by decide +kernel, by decide +kernel, by decide +kernel⟩
theorem cv_X6_300 : aCV RX6 300 yX6_count 5 mX6_count 1 := ⟨⟨TX6, 12, rfl⟩, am_mem 819 (by decide +kernel) rfl, am_mem 787 (by decide +kernel) rfl, am_mem 788 (by decide +kernel) rfl, am_mem 52 (by decide +kernel) rfl, am_mem 789 (by decide +kernel) rfl, by decide +kernel, by decide +kernel, by decide +kernel⟩
theorem cv_X6_303 : aCV RX6 303 yX1_foldInto 0 mX1_foldInto 1 := ⟨⟨TX1, 9, rfl⟩, am_mem 820 (by decide +kernel) rfl, am_mem 821 (by decide +kernel) rfl, am_mem 822 (by decide +kernel) rfl, am_mem 55 (by decide +kernel) rfl, am_mem 823 (by decide +kernel) rfl, by decide +kernel, by decide +kernel, by decide +kernel⟩
theorem cv_X6_307 : aCV RX6 307 yX4_foldInto 3 mX4_foldInto 1 := ⟨⟨TX4, 2, rfl⟩, am_mem 827 (by decide +kernel) rfl, am_mem 828 (by decide +kernel) rfl, am_mem 829 (by decide +kernel) rfl, am_mem 58 (by decide +kernel) rfl, am_mem 830 (by decide +kernel) rfl, by decide +kernel, by decide +kernel, by decide +kernel⟩
theorem cv_X6_74 : aCV RX6 74 yX6_found 5 mX6_found 1 := ⟨⟨TX6, 12, rfl⟩, am_mem 295 (by decide +kernel) rfl, am_mem 297 (by decide +kernel) rfl, am_mem 0 (by decide +kernel) rfl, am_mem 52 (by decide +kernel) rfl, am_mem 298 (by decide +kernel) rfl, by decide +kernel, by decide +kernel, by decide +kernel⟩
theorem cv_X6_78 : aCV RX6 78 yX4_begin 3 mX4_begin 2 := ⟨⟨TX4, 2, rfl⟩, am_mem 299 (by decide +kernel) rfl, am_mem 300 (by decide +kernel) rfl, am_mem 301 (by decide +kernel) rfl, am_mem 58 (by decide +kernel) rfl, am_mem 302 (by decide +kernel) rfl, by decide +kernel, by decide +kernel, by decide +kernel⟩
theorem cv_X6_82 : aCV RX6 82 yX4_isThere 3 mX4_isThere 0 := ⟨⟨TX4, 2, rfl⟩, am_mem 311 (by decide +kernel) rfl, am_mem 312 (by decide +kernel) rfl, am_mem 313 (by decide +kernel) rfl, am_mem 58 (by decide +kernel) rfl, am_mem 314 (by decide +kernel) rfl, by decide +kernel, by decide +kernel, by decide +kernel⟩
theorem cv_X6_86 : aCV RX6 86 yX4_reaches 3 mX4_reaches 1 := ⟨⟨TX4, 2, rfl⟩, am_mem 315 (by decide +kernel) rfl, am_mem 316 (by decide +kernel) rfl, am_mem 317 (by decide +kernel) rfl, am_mem 58 (by decide +kernel) rfl, am_mem 318 (by decide +kernel) rfl, by decide +kernel, by decide +kernel, by decide +kernel⟩
theorem cv_X6_95 : aCV RX6 95 yX4_holds 3 mX4_holds 2 := ⟨⟨TX4, 2, rfl⟩, am_mem 331 (by decide +kernel) rfl, am_mem 332 (by decide +kernel) rfl, am_mem 333 (by decide +kernel) rfl, am_mem 58 (by decide +kernel) rfl, am_mem 334 (by decide +kernel) rfl, by decide +kernel, by decide +kernel, by decide +kernel⟩
theorem cv_X7_103 : aCV RX7 103 yX7_takesQuestion 6 mX7_takesQuestion 1 := ⟨⟨TX7, 21, rfl⟩, am_mem 968 (by decide +kernel) rfl, am_mem 970 (by decide +kernel) rfl, am_mem 26 (by decide +kernel) rfl, am_mem 60 (by decide +kernel) rfl, am_mem 971 (by decide +kernel) rfl, by decide +kernel, by decide +kernel, by decide +kernel⟩
theorem cv_X7_106 : aCV RX7 106 yX7_takesCard 6 mX7_takesCard 1 := ⟨⟨TX7, 21, rfl⟩, am_mem 976 (by decide +kernel) rfl, am_mem 978 (by decide +kernel) rfl, am_mem 28 (by decide +kernel) rfl, am_mem 60 (by decide +kernel) rfl, am_mem 979 (by decide +kernel) rfl, by decide +kernel, by decide +kernel, by decide +kernel⟩
theorem cv_X7_109 : aCV RX7 109 yX7_reads 6 mX7_reads 1 := ⟨⟨TX7, 21, rfl⟩, am_mem 958 (by decide +kernel) rfl, am_mem 960 (by decide +kernel) rfl, am_mem 24 (by decide +kernel) rfl, am_mem 60 (by decide +kernel) rfl, am_mem 961 (by decide +kernel) rfl, by decide +kernel, by decide +kernel, by decide +kernel⟩
theorem cv_X7_120 : aCV RX7 120 yX7_means 6 mX7_means 1 := ⟨⟨TX7, 21, rfl⟩, am_mem 1002 (by decide +kernel) rfl, am_mem 1004 (by decide +kernel) rfl, am_mem 31 (by decide +kernel) rfl, am_mem 60 (by decide +kernel) rfl, am_mem 1005 (by decide +kernel) rfl, by decide +kernel, by decide +kernel, by decide +kernel⟩
theorem cv_X7_123 : aCV RX7 123 yX7_suits 6 mX7_suits 4 := ⟨⟨TX7, 21, rfl⟩, am_mem 1029 (by decide +kernel) rfl, am_mem 1031 (by decide +kernel) rfl, am_mem 35 (by decide +kernel) rfl, am_mem 60 (by decide +kernel) rfl, am_mem 1032 (by decide +kernel) rfl, by decide +kernel, by decide +kernel, by decide +kernel⟩
theorem cv_X7_126 : aCV RX7 126 yX7_answers 6 mX7_answers 1 := ⟨⟨TX7, 21, rfl⟩, am_mem 1006 (by decide +kernel) rfl, am_mem 1008 (by decide +kernel) rfl, am_mem 32 (by decide +kernel) rfl, am_mem 60 (by decide +kernel) rfl, am_mem 1009 (by decide +kernel) rfl, by decide +kernel, by decide +kernel, by decide +kernel⟩
theorem cv_X7_129 : aCV RX7 129 yX7_isCard 6 mX7_isCard 1 := ⟨⟨TX7, 21, rfl⟩, am_mem 994 (by decide +kernel) rfl, am_mem 996 (by decide +kernel) rfl, am_mem 29 (by decide +kernel) rfl, am_mem 60 (by decide +kernel) rfl, am_mem 997 (by decide +kernel) rfl, by decide +kernel, by decide +kernel, by decide +kernel⟩
theorem cv_X7_132 : aCV RX7 132 yX7_toldCard 6 mX7_toldCard 2 := ⟨⟨TX7, 21, rfl⟩, am_mem 998 (by decide +kernel) rfl, am_mem 1000 (by decide +kernel) rfl, am_mem 30 (by decide +kernel) rfl, am_mem 60 (by decide +kernel) rfl, am_mem 1001 (by decide +kernel) rfl, by decide +kernel, by decide +kernel, by decide +kernel⟩
theorem cv_X7_136 : aCV RX7 136 yX7_isQuestion 6 mX7_isQuestion 1 := ⟨⟨TX7, 21, rfl⟩, am_mem 1014 (by decide +kernel) rfl, am_mem 1016 (by decide +kernel) rfl, am_mem 33 (by decide +kernel) rfl, am_mem 60 (by decide +kernel) rfl, am_mem 1017 (by decide +kernel) rfl, by decide +kernel, by decide +kernel, by decide +kernel⟩
theorem cv_X7_139 : aCV RX7 139 yX7_isFit 6 mX7_isFit 2 := ⟨⟨TX7, 21, rfl⟩, am_mem 1025 (by decide +kernel) rfl, am_mem 1027 (by decide +kernel) rfl, am_mem 34 (by decide +kernel) rfl, am_mem 60 (by decide +kernel) rfl, am_mem 1028 (by decide +kernel) rfl, by decide +kernel, by decide +kernel, by decide +kernel⟩
theorem cv_X7_142 : aCV RX7 142 yX7_puts 6 mX7_puts 2 := ⟨⟨TX7, 21, rfl⟩, am_mem 1037 (by decide +kernel) rfl, am_mem 1039 (by decide +kernel) rfl, am_mem 36 (by decide +kernel) rfl, am_mem 60 (by decide +kernel) rfl, am_mem 1040 (by decide +kernel) rfl, by decide +kernel, by decide +kernel, by decide +kernel⟩
theorem cv_X7_147 : aCV RX7 147 yX7_isFree 6 mX7_isFree 1 := ⟨⟨TX7, 21, rfl⟩, am_mem 1058 (by decide +kernel) rfl, am_mem 1060 (by decide +kernel) rfl, am_mem 37 (by decide +kernel) rfl, am_mem 60 (by decide +kernel) rfl, am_mem 1061 (by decide +kernel) rfl, by decide +kernel, by decide +kernel, by decide +kernel⟩
theorem cv_X7_150 : aCV RX7 150 yX7_isFreeCard 6 mX7_isFreeCard 1 := ⟨⟨TX7, 21, rfl⟩, am_mem 1062 (by decide +kernel) rfl, am_mem 1064 (by decide +kernel) rfl, am_mem 38 (by decide +kernel) rfl, am_mem 60 (by decide +kernel) rfl, am_mem 1065 (by decide +kernel) rfl, by decide +kernel, by decide +kernel, by decide +kernel⟩
theorem cv_X7_153 : aCV RX7 153 yX7_takesIt 6 mX7_takesIt 2 := ⟨⟨TX7, 21, rfl⟩, am_mem 1066 (by decide +kernel) rfl, am_mem 1068 (by decide +kernel) rfl, am_mem 39 (by decide +kernel) rfl, am_mem 60 (by decide +kernel) rfl, am_mem 1069 (by decide +kernel) rfl, by decide +kernel, by decide +kernel, by decide +kernel⟩
theorem cv_X7_157 : aCV RX7 157 yX7_stands 6 mX7_stands 1 := ⟨⟨TX7, 21, rfl⟩, am_mem 1070 (by decide +kernel) rfl, am_mem 1072 (by decide +kernel) rfl, am_mem 40 (by decide +kernel) rfl, am_mem 60 (by decide +kernel) rfl, am_mem 1073 (by decide +kernel) rfl, by decide +kernel, by decide +kernel, by decide +kernel⟩
theorem cv_X7_160 : aCV RX7 160 yX7_standing 6 mX7_standing 1 := ⟨⟨TX7, 21, rfl⟩, am_mem 1086 (by decide +kernel) rfl, am_mem 1088 (by decide +kernel) rfl, am_mem 41 (by decide +kernel) rfl, am_mem 60 (by decide +kernel) rfl, am_mem 1089 (by decide +kernel) rfl, by decide +kernel, by decide +kernel, by decide +kernel⟩
theorem cv_X7_168 : aCV RX7 168 yX7_counts 6 mX7_counts 1 := ⟨⟨TX7, 21, rfl⟩, am_mem 1107 (by decide +kernel) rfl, am_mem 1109 (by decide +kernel) rfl, am_mem 43 (by decide +kernel) rfl, am_mem 60 (by decide +kernel) rfl, am_mem 1110 (by decide +kernel) rfl, by decide +kernel, by decide +kernel, by decide +kernel⟩
theorem cv_X7_172 : aCV RX7 172 yX7_mayMatch 6 mX7_mayMatch 2 := ⟨⟨TX7, 21, rfl⟩, am_mem 1111 (by decide +kernel) rfl, am_mem 1113 (by decide +kernel) rfl, am_mem 44 (by decide +kernel) rfl, am_mem 60 (by decide +kernel) rfl, am_mem 1114 (by decide +kernel) rfl, by decide +kernel, by decide +kernel, by decide +kernel⟩
theorem cv_X7_178 : aCV RX7 178 yX7_row 6 mX7_row 2 := ⟨⟨TX7, 21, rfl⟩, am_mem 1119 (by decide +kernel) rfl, am_mem 904 (by decide +kernel) rfl, am_mem 905 (by decide +kernel) rfl, am_mem 60 (by decide +kernel) rfl, am_mem 906 (by decide +kernel) rfl, by decide +kernel, by decide +kernel, by decide +kernel⟩
theorem cv_X7_181 : aCV RX7 181 yX7_layMatchings 6 mX7_layMatchings 1 := ⟨⟨TX7, 21, rfl⟩, am_mem 1103 (by decide +kernel) rfl, am_mem 1105 (by decide +kernel) rfl, am_mem 42 (by decide +kernel) rfl, am_mem 60 (by decide +kernel) rfl, am_mem 1106 (by decide +kernel) rfl, by decide +kernel, by decide +kernel, by decide +kernel⟩
theorem cv_X7_185 : aCV RX7 185 yX7_laid 6 mX7_laid 1 := ⟨⟨TX7, 21, rfl⟩, am_mem 1115 (by decide +kernel) rfl, am_mem 1117 (by decide +kernel) rfl, am_mem 45 (by decide +kernel) rfl, am_mem 60 (by decide +kernel) rfl, am_mem 1118 (by decide +kernel) rfl, by decide +kernel, by decide +kernel, by decide +kernel⟩
theorem cv_X7_191 : aCV RX7 191 yX7_manyFit 6 mX7_manyFit 3 := ⟨⟨TX7, 21, rfl⟩, am_mem 1156 (by decide +kernel) rfl, am_mem 1158 (by decide +kernel) rfl, am_mem 46 (by decide +kernel) rfl, am_mem 60 (by decide +kernel) rfl, am_mem 1159 (by decide +kernel) rfl, by decide +kernel, by decide +kernel, by decide +kernel⟩
theorem cv_X7_198 : aCV RX7 198 yX7_fits 6 mX7_fits 1 := ⟨⟨TX7, 21, rfl⟩, am_mem 1167 (by decide +kernel) rfl, am_mem 1051 (by decide +kernel) rfl, am_mem 1052 (by decide +kernel) rfl, am_mem 60 (by decide +kernel) rfl, am_mem 1053 (by decide +kernel) rfl, by decide +kernel, by decide +kernel, by decide +kernel⟩
theorem cv_X7_201 : aCV RX7 201 yX7_manyThere 6 mX7_manyThere 3 := ⟨⟨TX7, 21, rfl⟩, am_mem 1180 (by decide +kernel) rfl, am_mem 1182 (by decide +kernel) rfl, am_mem 47 (by decide +kernel) rfl, am_mem 60 (by decide +kernel) rfl, am_mem 1183 (by decide +kernel) rfl, by decide +kernel, by decide +kernel, by decide +kernel⟩
theorem cv_X7_204 : aCV RX7 204 yX7_manyHere 6 mX7_manyHere 2 := ⟨⟨TX7, 21, rfl⟩, am_mem 1184 (by decide +kernel) rfl, am_mem 1186 (by decide +kernel) rfl, am_mem 48 (by decide +kernel) rfl, am_mem 60 (by decide +kernel) rfl, am_mem 1187 (by decide +kernel) rfl, by decide +kernel, by decide +kernel, by decide +kernel⟩
theorem cv_X7_210 : aCV RX7 210 yX7_lying 6 mX7_lying 2 := ⟨⟨TX7, 21, rfl⟩, am_mem 1195 (by decide +kernel) rfl, am_mem 1197 (by decide +kernel) rfl, am_mem 49 (by decide +kernel) rfl, am_mem 60 (by decide +kernel) rfl, am_mem 1198 (by decide +kernel) rfl, by decide +kernel, by decide +kernel, by decide +kernel⟩
theorem cv_X7_225 : aCV RX7 225 yX7_counted 6 mX7_counted 1 := ⟨⟨TX7, 21, rfl⟩, am_mem 1233 (by decide +kernel) rfl, am_mem 1235 (by decide +kernel) rfl, am_mem 50 (by decide +kernel) rfl, am_mem 60 (by decide +kernel) rfl, am_mem 1236 (by decide +kernel) rfl, by decide +kernel, by decide +kernel, by decide +kernel⟩
theorem cv_X7_76 : aCV RX7 76 yX7_found 6 mX7_found 1 := ⟨⟨TX7, 21, rfl⟩, am_mem 914 (by decide +kernel) rfl, am_mem 916 (by decide +kernel) rfl, am_mem 22 (by decide +kernel) rfl, am_mem 60 (by decide +kernel) rfl, am_mem 917 (by decide +kernel) rfl, by decide +kernel, by decide +kernel, by decide +kernel⟩
theorem cv_X7_80 : aCV RX7 80 yX7_tell 6 mX7_tell 1 := ⟨⟨TX7, 21, rfl⟩, am_mem 922 (by decide +kernel) rfl, am_mem 924 (by decide +kernel) rfl, am_mem 23 (by decide +kernel) rfl, am_mem 60 (by decide +kernel) rfl, am_mem 925 (by decide +kernel) rfl, by decide +kernel, by decide +kernel, by decide +kernel⟩
theorem cv_X7_89 : aCV RX7 89 yX7_byteAt 6 mX7_byteAt 1 := ⟨⟨TX7, 21, rfl⟩, am_mem 964 (by decide +kernel) rfl, am_mem 966 (by decide +kernel) rfl, am_mem 25 (by decide +kernel) rfl, am_mem 60 (by decide +kernel) rfl, am_mem 967 (by decide +kernel) rfl, by decide +kernel, by decide +kernel, by decide +kernel⟩
theorem cv_X7_95 : aCV RX7 95 yX7_takes 6 mX7_takes 4 := ⟨⟨TX7, 21, rfl⟩, am_mem 972 (by decide +kernel) rfl, am_mem 974 (by decide +kernel) rfl, am_mem 27 (by decide +kernel) rfl, am_mem 60 (by decide +kernel) rfl, am_mem 975 (by decide +kernel) rfl, by decide +kernel, by decide +kernel, by decide +kernel⟩
theorem cx_X1_104 : aCS RX1 104 yX0_meaning mX0_meaning 3 := ⟨am_mem 402 (by decide +kernel) rfl, am_mem 403 (by decide +kernel) rfl, am_mem 62 (by decide +kernel) rfl, am_mem 404 (by decide +kernel) rfl, by decide +kernel, by decide +kernel, by decide +kernel⟩
theorem cx_X1_111 : aCS RX1 111 yX0_isA mX0_isA 2 := ⟨am_mem 436 (by decide +kernel) rfl, am_mem 426 (by decide +kernel) rfl, am_mem 62 (by decide +kernel) rfl, am_mem 427 (by decide +kernel) rfl, by decide +kernel, by decide +kernel, by decide +kernel⟩
theorem cx_X1_140 : aCS RX1 140 yJ6_bitCount_0f7a4 mJ6_bitCount_0f7a4 1 := ⟨am_mem 721 (by decide +kernel) rfl, am_mem 567 (by decide +kernel) rfl, am_mem 63 (by decide +kernel) rfl, am_mem 568 (by decide +kernel) rfl, by decide +kernel, by decide +kernel, by decide +kernel⟩
theorem cx_X1_151 : aCS RX1 151 yX1_mostStaying mX1_mostStaying 4 := ⟨am_mem 747 (by decide +kernel) rfl, am_mem 748 (by decide +kernel) rfl, am_mem 55 (by decide +kernel) rfl, am_mem 749 (by decide +kernel) rfl, by decide +kernel, by decide +kernel, by decide +kernel⟩
theorem cx_X1_52 : aCS RX1 52 yX1_pastBlanks mX1_pastBlanks 2 := ⟨am_mem 361 (by decide +kernel) rfl, am_mem 362 (by decide +kernel) rfl, am_mem 55 (by decide +kernel) rfl, am_mem 363 (by decide +kernel) rfl, by decide +kernel, by decide +kernel, by decide +kernel⟩
theorem cx_X1_69 : aCS RX1 69 yX0_ofLetter mX0_ofLetter 1 := ⟨am_mem 377 (by decide +kernel) rfl, am_mem 378 (by decide +kernel) rfl, am_mem 62 (by decide +kernel) rfl, am_mem 379 (by decide +kernel) rfl, by decide +kernel, by decide +kernel, by decide +kernel⟩
theorem cx_X1_75 : aCS RX1 75 yX1_figure mX1_figure 4 := ⟨am_mem 369 (by decide +kernel) rfl, am_mem 370 (by decide +kernel) rfl, am_mem 55 (by decide +kernel) rfl, am_mem 371 (by decide +kernel) rfl, by decide +kernel, by decide +kernel, by decide +kernel⟩
theorem cx_X2_55 : aCS RX2 55 yJ7_fill_53178 mJ7_fill_53178 2 := ⟨am_mem 552 (by decide +kernel) rfl, am_mem 191 (by decide +kernel) rfl, am_mem 57 (by decide +kernel) rfl, am_mem 192 (by decide +kernel) rfl, by decide +kernel, by decide +kernel, by decide +kernel⟩
theorem cx_X2_73 : aCS RX2 73 yJ6_bitCount_0f7a4 mJ6_bitCount_0f7a4 1 := ⟨am_mem 566 (by decide +kernel) rfl, am_mem 567 (by decide +kernel) rfl, am_mem 63 (by decide +kernel) rfl, am_mem 568 (by decide +kernel) rfl, by decide +kernel, by decide +kernel, by decide +kernel⟩
theorem cx_X3_50 : aCS RX3 50 yJ7_fill_53178 mJ7_fill_53178 2 := ⟨am_mem 674 (by decide +kernel) rfl, am_mem 191 (by decide +kernel) rfl, am_mem 57 (by decide +kernel) rfl, am_mem 192 (by decide +kernel) rfl, by decide +kernel, by decide +kernel, by decide +kernel⟩
theorem cx_X3_59 : aCS RX3 59 yX0_isA mX0_isA 2 := ⟨am_mem 675 (by decide +kernel) rfl, am_mem 426 (by decide +kernel) rfl, am_mem 62 (by decide +kernel) rfl, am_mem 427 (by decide +kernel) rfl, by decide +kernel, by decide +kernel, by decide +kernel⟩
theorem cx_X3_84 : aCS RX3 84 yJ6_bitCount_0f7a4 mJ6_bitCount_0f7a4 1 := ⟨am_mem 697 (by decide +kernel) rfl, am_mem 567 (by decide +kernel) rfl, am_mem 63 (by decide +kernel) rfl, am_mem 568 (by decide +kernel) rfl, by decide +kernel, by decide +kernel, by decide +kernel⟩
theorem cx_X4_25 : aCS RX4 25 yJ7_fill_53178 mJ7_fill_53178 2 := ⟨am_mem 303 (by decide +kernel) rfl, am_mem 191 (by decide +kernel) rfl, am_mem 57 (by decide +kernel) rfl, am_mem 192 (by decide +kernel) rfl, by decide +kernel, by decide +kernel, by decide +kernel⟩
theorem cx_X5_34 : aCS RX5 34 yJ7_fill_53178 mJ7_fill_53178 2 := ⟨am_mem 190 (by decide +kernel) rfl, am_mem 191 (by decide +kernel) rfl, am_mem 57 (by decide +kernel) rfl, am_mem 192 (by decide +kernel) rfl, by decide +kernel, by decide +kernel, by decide +kernel⟩
theorem cx_X6_105 : aCS RX6 105 yX6_isText mX6_isText 1 := ⟨am_mem 346 (by decide +kernel) rfl, am_mem 347 (by decide +kernel) rfl, am_mem 52 (by decide +kernel) rfl, am_mem 348 (by decide +kernel) rfl, by decide +kernel, by decide +kernel, by decide +kernel⟩
theorem cx_X6_134 : aCS RX6 134 yX0_isA mX0_isA 2 := ⟨am_mem 425 (by decide +kernel) rfl, am_mem 426 (by decide +kernel) rfl, am_mem 62 (by decide +kernel) rfl, am_mem 427 (by decide +kernel) rfl, by decide +kernel, by decide +kernel, by decide +kernel⟩
theorem cx_X6_182 : aCS RX6 182 yX6_isPlaceKept mX6_isPlaceKept 1 := ⟨am_mem 521 (by decide +kernel) rfl, am_mem 522 (by decide +kernel) rfl, am_mem 52 (by decide +kernel) rfl, am_mem 523 (by decide +kernel) rfl, by decide +kernel, by decide +kernel, by decide +kernel⟩
theorem cx_X6_261 : aCS RX6 261 yJ6_bitCount_0f7a4 mJ6_bitCount_0f7a4 1 := ⟨am_mem 738 (by decide +kernel) rfl, am_mem 567 (by decide +kernel) rfl, am_mem 63 (by decide +kernel) rfl, am_mem 568 (by decide +kernel) rfl, by decide +kernel, by decide +kernel, by decide +kernel⟩
theorem cx_X6_289 : aCS RX6 289 yX6_thereAmong mX6_thereAmong 1 := ⟨am_mem 798 (by decide +kernel) rfl, am_mem 799 (by decide +kernel) rfl, am_mem 52 (by decide +kernel) rfl, am_mem 800 (by decide +kernel) rfl, by decide +kernel, by decide +kernel, by decide +kernel⟩
theorem cx_X6_308 : aCS RX6 308 yX6_greatestShared mX6_greatestShared 2 := ⟨am_mem 645 (by decide +kernel) rfl, am_mem 646 (by decide +kernel) rfl, am_mem 52 (by decide +kernel) rfl, am_mem 647 (by decide +kernel) rfl, by decide +kernel, by decide +kernel, by decide +kernel⟩
theorem cx_X6_70 : aCS RX6 70 yX6_isRow mX6_isRow 1 := ⟨am_mem 292 (by decide +kernel) rfl, am_mem 293 (by decide +kernel) rfl, am_mem 52 (by decide +kernel) rfl, am_mem 294 (by decide +kernel) rfl, by decide +kernel, by decide +kernel, by decide +kernel⟩
theorem cx_X7_112 : aCS RX7 112 yX7_copies mX7_copies 4 := ⟨am_mem 987 (by decide +kernel) rfl, am_mem 988 (by decide +kernel) rfl, am_mem 60 (by decide +kernel) rfl, am_mem 989 (by decide +kernel) rfl, by decide +kernel, by decide +kernel, by decide +kernel⟩
theorem cx_X7_116 : aCS RX7 116 yX7_isOf mX7_isOf 2 := ⟨am_mem 1022 (by decide +kernel) rfl, am_mem 1023 (by decide +kernel) rfl, am_mem 60 (by decide +kernel) rfl, am_mem 1024 (by decide +kernel) rfl, by decide +kernel, by decide +kernel, by decide +kernel⟩
theorem cx_X7_195 : aCS RX7 195 yX7_isOne mX7_isOne 1 := ⟨am_mem 1164 (by decide +kernel) rfl, am_mem 1165 (by decide +kernel) rfl, am_mem 60 (by decide +kernel) rfl, am_mem 1166 (by decide +kernel) rfl, by decide +kernel, by decide +kernel, by decide +kernel⟩
theorem cx_X7_207 : aCS RX7 207 yX7_lesser mX7_lesser 2 := ⟨am_mem 1188 (by decide +kernel) rfl, am_mem 1189 (by decide +kernel) rfl, am_mem 60 (by decide +kernel) rfl, am_mem 1190 (by decide +kernel) rfl, by decide +kernel, by decide +kernel, by decide +kernel⟩
theorem cx_X7_66 : aCS RX7 66 yX7_in mX7_in 3 := ⟨am_mem 911 (by decide +kernel) rfl, am_mem 912 (by decide +kernel) rfl, am_mem 60 (by decide +kernel) rfl, am_mem 913 (by decide +kernel) rfl, by decide +kernel, by decide +kernel, by decide +kernel⟩
theorem cx_X7_72 : aCS RX7 72 yX7_isRow mX7_isRow 1 := ⟨am_mem 907 (by decide +kernel) rfl, am_mem 908 (by decide +kernel) rfl, am_mem 60 (by decide +kernel) rfl, am_mem 909 (by decide +kernel) rfl, by decide +kernel, by decide +kernel, by decide +kernel⟩
theorem cx_X7_83 : aCS RX7 83 yX7_isText mX7_isText 1 := ⟨am_mem 946 (by decide +kernel) rfl, am_mem 947 (by decide +kernel) rfl, am_mem 60 (by decide +kernel) rfl, am_mem 948 (by decide +kernel) rfl, by decide +kernel, by decide +kernel, by decide +kernel⟩
theorem cx_X7_92 : aCS RX7 92 yX7_kindOf mX7_kindOf 1 := ⟨am_mem 980 (by decide +kernel) rfl, am_mem 981 (by decide +kernel) rfl, am_mem 60 (by decide +kernel) rfl, am_mem 982 (by decide +kernel) rfl, by decide +kernel, by decide +kernel, by decide +kernel⟩
theorem fl_X1_118 : aFl RX1 118 4 2 := ⟨RX5, TX5, 7, rfl, by decide, inX5g, Or.inr ⟨"LostQuestions", am_memN 160 (by decide +kernel) rfl⟩⟩
theorem fl_X1_15 : aFl RX1 15 0 1 := ⟨RX1, TX1, 9, rfl, by decide, inX1g, Or.inl (am_mem 196 (by decide +kernel) rfl)⟩
theorem fl_X1_175 : aFl RX1 175 4 6 := ⟨RX5, TX5, 7, rfl, by decide, inX5g, Or.inr ⟨"LostQuestions", am_memN 170 (by decide +kernel) rfl⟩⟩
theorem fl_X1_178 : aFl RX1 178 4 4 := ⟨RX5, TX5, 7, rfl, by decide, inX5g, Or.inr ⟨"LostQuestions", am_memN 166 (by decide +kernel) rfl⟩⟩
theorem fl_X1_18 : aFl RX1 18 0 2 := ⟨RX1, TX1, 9, rfl, by decide, inX1g, Or.inl (am_mem 197 (by decide +kernel) rfl)⟩
theorem fl_X1_21 : aFl RX1 21 0 3 := ⟨RX1, TX1, 9, rfl, by decide, inX1g, Or.inl (am_mem 198 (by decide +kernel) rfl)⟩
theorem fl_X1_24 : aFl RX1 24 0 4 := ⟨RX1, TX1, 9, rfl, by decide, inX1g, Or.inl (am_mem 199 (by decide +kernel) rfl)⟩
theorem fl_X1_27 : aFl RX1 27 0 5 := ⟨RX1, TX1, 9, rfl, by decide, inX1g, Or.inl (am_mem 200 (by decide +kernel) rfl)⟩
theorem fl_X1_33 : aFl RX1 33 0 6 := ⟨RX1, TX1, 9, rfl, by decide, inX1g, Or.inl (am_mem 202 (by decide +kernel) rfl)⟩
theorem fl_X1_37 : aFl RX1 37 0 7 := ⟨RX1, TX1, 9, rfl, by decide, inX1g, Or.inl (am_mem 204 (by decide +kernel) rfl)⟩
theorem fl_X1_41 : aFl RX1 41 0 8 := ⟨RX1, TX1, 9, rfl, by decide, inX1g, Or.inl (am_mem 208 (by decide +kernel) rfl)⟩
theorem fl_X1_47 : aFl RX1 47 3 1 := ⟨RX4, TX4, 2, rfl, by decide, inX4g, Or.inr ⟨"LostQuestions", am_memN 243 (by decide +kernel) rfl⟩⟩
theorem fl_X1_60 : aFl RX1 60 3 0 := ⟨RX4, TX4, 2, rfl, by decide, inX4g, Or.inr ⟨"LostQuestions", am_memN 240 (by decide +kernel) rfl⟩⟩
theorem fl_X1_79 : aFl RX1 79 4 0 := ⟨RX5, TX5, 7, rfl, by decide, inX5g, Or.inr ⟨"LostQuestions", am_memN 154 (by decide +kernel) rfl⟩⟩
theorem fl_X1_82 : aFl RX1 82 4 1 := ⟨RX5, TX5, 7, rfl, by decide, inX5g, Or.inr ⟨"LostQuestions", am_memN 157 (by decide +kernel) rfl⟩⟩
theorem fl_X1_9 : aFl RX1 9 0 0 := ⟨RX1, TX1, 9, rfl, by decide, inX1g, Or.inl (am_mem 193 (by decide +kernel) rfl)⟩
theorem fl_X1_94 : aFl RX1 94 4 3 := ⟨RX5, TX5, 7, rfl, by decide, inX5g, Or.inr ⟨"LostQuestions", am_memN 163 (by decide +kernel) rfl⟩⟩
theorem fl_X2_102 : aFl RX2 102 0 5 := ⟨RX1, TX1, 9, rfl, by decide, inX1g, Or.inr ⟨"LostQuestions", am_memN 201 (by decide +kernel) rfl⟩⟩
theorem fl_X2_15 : aFl RX2 15 1 1 := ⟨RX2, TX2, 8, rfl, by decide, inX2g, Or.inl (am_mem 83 (by decide +kernel) rfl)⟩
theorem fl_X2_18 : aFl RX2 18 1 2 := ⟨RX2, TX2, 8, rfl, by decide, inX2g, Or.inl (am_mem 84 (by decide +kernel) rfl)⟩
theorem fl_X2_21 : aFl RX2 21 1 3 := ⟨RX2, TX2, 8, rfl, by decide, inX2g, Or.inl (am_mem 85 (by decide +kernel) rfl)⟩
theorem fl_X2_25 : aFl RX2 25 1 4 := ⟨RX2, TX2, 8, rfl, by decide, inX2g, Or.inl (am_mem 86 (by decide +kernel) rfl)⟩
theorem fl_X2_28 : aFl RX2 28 1 5 := ⟨RX2, TX2, 8, rfl, by decide, inX2g, Or.inl (am_mem 87 (by decide +kernel) rfl)⟩
theorem fl_X2_31 : aFl RX2 31 1 6 := ⟨RX2, TX2, 8, rfl, by decide, inX2g, Or.inl (am_mem 88 (by decide +kernel) rfl)⟩
theorem fl_X2_34 : aFl RX2 34 1 7 := ⟨RX2, TX2, 8, rfl, by decide, inX2g, Or.inl (am_mem 90 (by decide +kernel) rfl)⟩
theorem fl_X2_48 : aFl RX2 48 0 8 := ⟨RX1, TX1, 9, rfl, by decide, inX1g, Or.inr ⟨"LostQuestions", am_memN 209 (by decide +kernel) rfl⟩⟩
theorem fl_X2_51 : aFl RX2 51 0 7 := ⟨RX1, TX1, 9, rfl, by decide, inX1g, Or.inr ⟨"LostQuestions", am_memN 206 (by decide +kernel) rfl⟩⟩
theorem fl_X2_9 : aFl RX2 9 1 0 := ⟨RX2, TX2, 8, rfl, by decide, inX2g, Or.inl (am_mem 82 (by decide +kernel) rfl)⟩
theorem fl_X3_15 : aFl RX3 15 2 1 := ⟨RX3, TX3, 7, rfl, by decide, inX3g, Or.inl (am_mem 117 (by decide +kernel) rfl)⟩
theorem fl_X3_18 : aFl RX3 18 2 2 := ⟨RX3, TX3, 7, rfl, by decide, inX3g, Or.inl (am_mem 118 (by decide +kernel) rfl)⟩
theorem fl_X3_31 : aFl RX3 31 2 6 := ⟨RX3, TX3, 7, rfl, by decide, inX3g, Or.inl (am_mem 125 (by decide +kernel) rfl)⟩
theorem fl_X3_41 : aFl RX3 41 0 7 := ⟨RX1, TX1, 9, rfl, by decide, inX1g, Or.inr ⟨"LostQuestions", am_memN 205 (by decide +kernel) rfl⟩⟩
theorem fl_X3_56 : aFl RX3 56 0 0 := ⟨RX1, TX1, 9, rfl, by decide, inX1g, Or.inr ⟨"LostQuestions", am_memN 194 (by decide +kernel) rfl⟩⟩
theorem fl_X3_74 : aFl RX3 74 0 8 := ⟨RX1, TX1, 9, rfl, by decide, inX1g, Or.inr ⟨"LostQuestions", am_memN 210 (by decide +kernel) rfl⟩⟩
theorem fl_X3_9 : aFl RX3 9 2 0 := ⟨RX3, TX3, 7, rfl, by decide, inX3g, Or.inl (am_mem 116 (by decide +kernel) rfl)⟩
theorem fl_X4_21 : aFl RX4 21 3 0 := ⟨RX4, TX4, 2, rfl, by decide, inX4g, Or.inl (am_mem 239 (by decide +kernel) rfl)⟩
theorem fl_X4_9 : aFl RX4 9 3 1 := ⟨RX4, TX4, 2, rfl, by decide, inX4g, Or.inl (am_mem 242 (by decide +kernel) rfl)⟩
theorem fl_X5_15 : aFl RX5 15 4 1 := ⟨RX5, TX5, 7, rfl, by decide, inX5g, Or.inl (am_mem 156 (by decide +kernel) rfl)⟩
theorem fl_X5_18 : aFl RX5 18 4 2 := ⟨RX5, TX5, 7, rfl, by decide, inX5g, Or.inl (am_mem 159 (by decide +kernel) rfl)⟩
theorem fl_X5_21 : aFl RX5 21 4 3 := ⟨RX5, TX5, 7, rfl, by decide, inX5g, Or.inl (am_mem 162 (by decide +kernel) rfl)⟩
theorem fl_X5_24 : aFl RX5 24 4 4 := ⟨RX5, TX5, 7, rfl, by decide, inX5g, Or.inl (am_mem 165 (by decide +kernel) rfl)⟩
theorem fl_X5_27 : aFl RX5 27 4 5 := ⟨RX5, TX5, 7, rfl, by decide, inX5g, Or.inl (am_mem 167 (by decide +kernel) rfl)⟩
theorem fl_X5_30 : aFl RX5 30 4 6 := ⟨RX5, TX5, 7, rfl, by decide, inX5g, Or.inl (am_mem 168 (by decide +kernel) rfl)⟩
theorem fl_X5_9 : aFl RX5 9 4 0 := ⟨RX5, TX5, 7, rfl, by decide, inX5g, Or.inl (am_mem 153 (by decide +kernel) rfl)⟩
theorem fl_X6_11 : aFl RX6 11 5 0 := ⟨RX6, TX6, 12, rfl, by decide, inX6g, Or.inl (am_mem 251 (by decide +kernel) rfl)⟩
theorem fl_X6_112 : aFl RX6 112 4 6 := ⟨RX5, TX5, 7, rfl, by decide, inX5g, Or.inr ⟨"LostQuestions", am_memN 169 (by decide +kernel) rfl⟩⟩
theorem fl_X6_115 : aFl RX6 115 0 7 := ⟨RX1, TX1, 9, rfl, by decide, inX1g, Or.inr ⟨"LostQuestions", am_memN 207 (by decide +kernel) rfl⟩⟩
theorem fl_X6_131 : aFl RX6 131 0 0 := ⟨RX1, TX1, 9, rfl, by decide, inX1g, Or.inr ⟨"LostQuestions", am_memN 195 (by decide +kernel) rfl⟩⟩
theorem fl_X6_142 : aFl RX6 142 0 6 := ⟨RX1, TX1, 9, rfl, by decide, inX1g, Or.inr ⟨"LostQuestions", am_memN 203 (by decide +kernel) rfl⟩⟩
theorem fl_X6_146 : aFl RX6 146 4 0 := ⟨RX5, TX5, 7, rfl, by decide, inX5g, Or.inr ⟨"LostQuestions", am_memN 155 (by decide +kernel) rfl⟩⟩
theorem fl_X6_149 : aFl RX6 149 4 1 := ⟨RX5, TX5, 7, rfl, by decide, inX5g, Or.inr ⟨"LostQuestions", am_memN 158 (by decide +kernel) rfl⟩⟩
theorem fl_X6_15 : aFl RX6 15 5 1 := ⟨RX6, TX6, 12, rfl, by decide, inX6g, Or.inl (am_mem 252 (by decide +kernel) rfl)⟩
theorem fl_X6_152 : aFl RX6 152 4 2 := ⟨RX5, TX5, 7, rfl, by decide, inX5g, Or.inr ⟨"LostQuestions", am_memN 161 (by decide +kernel) rfl⟩⟩
theorem fl_X6_173 : aFl RX6 173 4 3 := ⟨RX5, TX5, 7, rfl, by decide, inX5g, Or.inr ⟨"LostQuestions", am_memN 164 (by decide +kernel) rfl⟩⟩
theorem fl_X6_197 : aFl RX6 197 1 6 := ⟨RX2, TX2, 8, rfl, by decide, inX2g, Or.inr ⟨"LostQuestions", am_memN 89 (by decide +kernel) rfl⟩⟩
theorem fl_X6_20 : aFl RX6 20 5 2 := ⟨RX6, TX6, 12, rfl, by decide, inX6g, Or.inl (am_mem 253 (by decide +kernel) rfl)⟩
theorem fl_X6_204 : aFl RX6 204 0 8 := ⟨RX1, TX1, 9, rfl, by decide, inX1g, Or.inr ⟨"LostQuestions", am_memN 211 (by decide +kernel) rfl⟩⟩
theorem fl_X6_210 : aFl RX6 210 1 7 := ⟨RX2, TX2, 8, rfl, by decide, inX2g, Or.inr ⟨"LostQuestions", am_memN 91 (by decide +kernel) rfl⟩⟩
theorem fl_X6_234 : aFl RX6 234 2 4 := ⟨RX3, TX3, 7, rfl, by decide, inX3g, Or.inr ⟨"LostQuestions", am_memN 122 (by decide +kernel) rfl⟩⟩
theorem fl_X6_237 : aFl RX6 237 2 3 := ⟨RX3, TX3, 7, rfl, by decide, inX3g, Or.inr ⟨"LostQuestions", am_memN 120 (by decide +kernel) rfl⟩⟩
theorem fl_X6_24 : aFl RX6 24 5 3 := ⟨RX6, TX6, 12, rfl, by decide, inX6g, Or.inl (am_mem 254 (by decide +kernel) rfl)⟩
theorem fl_X6_244 : aFl RX6 244 2 5 := ⟨RX3, TX3, 7, rfl, by decide, inX3g, Or.inr ⟨"LostQuestions", am_memN 124 (by decide +kernel) rfl⟩⟩
theorem fl_X6_31 : aFl RX6 31 5 4 := ⟨RX6, TX6, 12, rfl, by decide, inX6g, Or.inl (am_mem 255 (by decide +kernel) rfl)⟩
theorem fl_X6_38 : aFl RX6 38 5 5 := ⟨RX6, TX6, 12, rfl, by decide, inX6g, Or.inl (am_mem 256 (by decide +kernel) rfl)⟩
theorem fl_X6_45 : aFl RX6 45 5 6 := ⟨RX6, TX6, 12, rfl, by decide, inX6g, Or.inl (am_mem 257 (by decide +kernel) rfl)⟩
theorem fl_X6_49 : aFl RX6 49 5 7 := ⟨RX6, TX6, 12, rfl, by decide, inX6g, Or.inl (am_mem 258 (by decide +kernel) rfl)⟩
theorem fl_X6_52 : aFl RX6 52 5 8 := ⟨RX6, TX6, 12, rfl, by decide, inX6g, Or.inl (am_mem 259 (by decide +kernel) rfl)⟩
theorem fl_X6_56 : aFl RX6 56 5 9 := ⟨RX6, TX6, 12, rfl, by decide, inX6g, Or.inl (am_mem 260 (by decide +kernel) rfl)⟩
theorem fl_X6_60 : aFl RX6 60 5 10 := ⟨RX6, TX6, 12, rfl, by decide, inX6g, Or.inl (am_mem 261 (by decide +kernel) rfl)⟩
theorem fl_X6_63 : aFl RX6 63 5 11 := ⟨RX6, TX6, 12, rfl, by decide, inX6g, Or.inl (am_mem 262 (by decide +kernel) rfl)⟩
theorem fl_X6_89 : aFl RX6 89 3 0 := ⟨RX4, TX4, 2, rfl, by decide, inX4g, Or.inr ⟨"LostQuestions", am_memN 241 (by decide +kernel) rfl⟩⟩
theorem fl_X6_92 : aFl RX6 92 3 1 := ⟨RX4, TX4, 2, rfl, by decide, inX4g, Or.inr ⟨"LostQuestions", am_memN 244 (by decide +kernel) rfl⟩⟩
theorem fl_X7_13 : aFl RX7 13 6 1 := ⟨RX7, TX7, 21, rfl, by decide, inX7g, Or.inl (am_mem 839 (by decide +kernel) rfl)⟩
theorem fl_X7_16 : aFl RX7 16 6 2 := ⟨RX7, TX7, 21, rfl, by decide, inX7g, Or.inl (am_mem 840 (by decide +kernel) rfl)⟩
theorem fl_X7_165 : aFl RX7 165 6 18 := ⟨RX7, TX7, 21, rfl, by decide, inX7g, Or.inl (am_mem 856 (by decide +kernel) rfl)⟩
theorem fl_X7_175 : aFl RX7 175 6 17 := ⟨RX7, TX7, 21, rfl, by decide, inX7g, Or.inl (am_mem 855 (by decide +kernel) rfl)⟩
theorem fl_X7_188 : aFl RX7 188 6 8 := ⟨RX7, TX7, 21, rfl, by decide, inX7g, Or.inl (am_mem 846 (by decide +kernel) rfl)⟩
theorem fl_X7_19 : aFl RX7 19 6 3 := ⟨RX7, TX7, 21, rfl, by decide, inX7g, Or.inl (am_mem 841 (by decide +kernel) rfl)⟩
theorem fl_X7_22 : aFl RX7 22 6 4 := ⟨RX7, TX7, 21, rfl, by decide, inX7g, Or.inl (am_mem 842 (by decide +kernel) rfl)⟩
theorem fl_X7_25 : aFl RX7 25 6 5 := ⟨RX7, TX7, 21, rfl, by decide, inX7g, Or.inl (am_mem 843 (by decide +kernel) rfl)⟩
theorem fl_X7_28 : aFl RX7 28 6 6 := ⟨RX7, TX7, 21, rfl, by decide, inX7g, Or.inl (am_mem 844 (by decide +kernel) rfl)⟩
theorem fl_X7_32 : aFl RX7 32 6 9 := ⟨RX7, TX7, 21, rfl, by decide, inX7g, Or.inl (am_mem 847 (by decide +kernel) rfl)⟩
theorem fl_X7_36 : aFl RX7 36 6 11 := ⟨RX7, TX7, 21, rfl, by decide, inX7g, Or.inl (am_mem 849 (by decide +kernel) rfl)⟩
theorem fl_X7_39 : aFl RX7 39 6 12 := ⟨RX7, TX7, 21, rfl, by decide, inX7g, Or.inl (am_mem 850 (by decide +kernel) rfl)⟩
theorem fl_X7_42 : aFl RX7 42 6 14 := ⟨RX7, TX7, 21, rfl, by decide, inX7g, Or.inl (am_mem 852 (by decide +kernel) rfl)⟩
theorem fl_X7_45 : aFl RX7 45 6 15 := ⟨RX7, TX7, 21, rfl, by decide, inX7g, Or.inl (am_mem 853 (by decide +kernel) rfl)⟩
theorem fl_X7_48 : aFl RX7 48 6 16 := ⟨RX7, TX7, 21, rfl, by decide, inX7g, Or.inl (am_mem 854 (by decide +kernel) rfl)⟩
theorem fl_X7_51 : aFl RX7 51 6 19 := ⟨RX7, TX7, 21, rfl, by decide, inX7g, Or.inl (am_mem 857 (by decide +kernel) rfl)⟩
theorem fl_X7_54 : aFl RX7 54 6 20 := ⟨RX7, TX7, 21, rfl, by decide, inX7g, Or.inl (am_mem 858 (by decide +kernel) rfl)⟩
theorem fl_X7_57 : aFl RX7 57 6 10 := ⟨RX7, TX7, 21, rfl, by decide, inX7g, Or.inl (am_mem 848 (by decide +kernel) rfl)⟩
theorem fl_X7_61 : aFl RX7 61 6 7 := ⟨RX7, TX7, 21, rfl, by decide, inX7g, Or.inl (am_mem 845 (by decide +kernel) rfl)⟩
theorem fl_X7_7 : aFl RX7 7 6 0 := ⟨RX7, TX7, 21, rfl, by decide, inX7g, Or.inl (am_mem 838 (by decide +kernel) rfl)⟩
theorem fl_X7_86 : aFl RX7 86 6 13 := ⟨RX7, TX7, 21, rfl, by decide, inX7g, Or.inl (am_mem 851 (by decide +kernel) rfl)⟩
theorem fp_X1_37 : aFp RX1 37 0 7 .int false := ⟨RX1, TX1, 9, tyX1, rfl, by decide, inX1g, Or.inl (am_mem 204 (by decide +kernel) rfl), tyX1_ok, nmX1, rfl, by decide +kernel, fun h => by cases h⟩
theorem fp_X1_41 : aFp RX1 41 0 8 .int false := ⟨RX1, TX1, 9, tyX1, rfl, by decide, inX1g, Or.inl (am_mem 208 (by decide +kernel) rfl), tyX1_ok, nmX1, rfl, by decide +kernel, fun h => by cases h⟩
theorem fp_X2_21 : aFp RX2 21 1 3 .int false := ⟨RX2, TX2, 8, tyX2, rfl, by decide, inX2g, Or.inl (am_mem 85 (by decide +kernel) rfl), tyX2_ok, nmX2, rfl, by decide +kernel, fun h => by cases h⟩
theorem fp_X2_25 : aFp RX2 25 1 4 .int false := ⟨RX2, TX2, 8, tyX2, rfl, by decide, inX2g, Or.inl (am_mem 86 (by decide +kernel) rfl), tyX2_ok, nmX2, rfl, by decide +kernel, fun h => by cases h⟩
theorem fp_X2_28 : aFp RX2 28 1 5 .int false := ⟨RX2, TX2, 8, tyX2, rfl, by decide, inX2g, Or.inl (am_mem 87 (by decide +kernel) rfl), tyX2_ok, nmX2, rfl, by decide +kernel, fun h => by cases h⟩
theorem fp_X2_31 : aFp RX2 31 1 6 .int false := ⟨RX2, TX2, 8, tyX2, rfl, by decide, inX2g, Or.inl (am_mem 88 (by decide +kernel) rfl), tyX2_ok, nmX2, rfl, by decide +kernel, fun h => by cases h⟩
theorem fp_X2_34 : aFp RX2 34 1 7 .int false := ⟨RX2, TX2, 8, tyX2, rfl, by decide, inX2g, Or.inl (am_mem 90 (by decide +kernel) rfl), tyX2_ok, nmX2, rfl, by decide +kernel, fun h => by cases h⟩
theorem fp_X3_21 : aFp RX3 21 2 3 .int false := ⟨RX3, TX3, 7, tyX3, rfl, by decide, inX3g, Or.inl (am_mem 119 (by decide +kernel) rfl), tyX3_ok, nmX3, rfl, by decide +kernel, fun h => by cases h⟩
theorem fp_X3_25 : aFp RX3 25 2 4 .int false := ⟨RX3, TX3, 7, tyX3, rfl, by decide, inX3g, Or.inl (am_mem 121 (by decide +kernel) rfl), tyX3_ok, nmX3, rfl, by decide +kernel, fun h => by cases h⟩
theorem fp_X3_28 : aFp RX3 28 2 5 .int false := ⟨RX3, TX3, 7, tyX3, rfl, by decide, inX3g, Or.inl (am_mem 123 (by decide +kernel) rfl), tyX3_ok, nmX3, rfl, by decide +kernel, fun h => by cases h⟩
theorem fp_X3_31 : aFp RX3 31 2 6 .int false := ⟨RX3, TX3, 7, tyX3, rfl, by decide, inX3g, Or.inl (am_mem 125 (by decide +kernel) rfl), tyX3_ok, nmX3, rfl, by decide +kernel, fun h => by cases h⟩
theorem fp_X4_9 : aFp RX4 9 3 1 .int false := ⟨RX4, TX4, 2, tyX4, rfl, by decide, inX4g, Or.inl (am_mem 242 (by decide +kernel) rfl), tyX4_ok, nmX4, rfl, by decide +kernel, fun h => by cases h⟩
theorem fp_X5_30 : aFp RX5 30 4 6 .int false := ⟨RX5, TX5, 7, tyX5, rfl, by decide, inX5g, Or.inl (am_mem 168 (by decide +kernel) rfl), tyX5_ok, nmX5, rfl, by decide +kernel, fun h => by cases h⟩
theorem fp_X6_112 : aFp RX6 112 4 6 .int false := ⟨RX5, TX5, 7, tyX5, rfl, by decide, inX5g, Or.inr ⟨⟨"LostQuestions", am_memN 169 (by decide +kernel) rfl⟩, rfl⟩, tyX5_ok, nmX5, rfl, by decide +kernel, fun h => by cases h⟩
theorem fp_X6_45 : aFp RX6 45 5 6 (.object "LostQuestions$Library") false := ⟨RX6, TX6, 12, tyX6, rfl, by decide, inX6g, Or.inl (am_mem 257 (by decide +kernel) rfl), tyX6_ok, nmX6, rfl, by decide +kernel, fun h => by cases h⟩
theorem fp_X6_49 : aFp RX6 49 5 7 (.object "LostQuestions$Library") false := ⟨RX6, TX6, 12, tyX6, rfl, by decide, inX6g, Or.inl (am_mem 258 (by decide +kernel) rfl), tyX6_ok, nmX6, rfl, by decide +kernel, fun h => by cases h⟩
theorem fp_X6_52 : aFp RX6 52 5 8 .int false := ⟨RX6, TX6, 12, tyX6, rfl, by decide, inX6g, Or.inl (am_mem 259 (by decide +kernel) rfl), tyX6_ok, nmX6, rfl, by decide +kernel, fun h => by cases h⟩
theorem fp_X6_56 : aFp RX6 56 5 9 .long false := ⟨RX6, TX6, 12, tyX6, rfl, by decide, inX6g, Or.inl (am_mem 260 (by decide +kernel) rfl), tyX6_ok, nmX6, rfl, by decide +kernel, fun h => by cases h⟩
theorem fp_X6_60 : aFp RX6 60 5 10 .long false := ⟨RX6, TX6, 12, tyX6, rfl, by decide, inX6g, Or.inl (am_mem 261 (by decide +kernel) rfl), tyX6_ok, nmX6, rfl, by decide +kernel, fun h => by cases h⟩
theorem fp_X6_63 : aFp RX6 63 5 11 .int false := ⟨RX6, TX6, 12, tyX6, rfl, by decide, inX6g, Or.inl (am_mem 262 (by decide +kernel) rfl), tyX6_ok, nmX6, rfl, by decide +kernel, fun h => by cases h⟩
theorem fp_X6_92 : aFp RX6 92 3 1 .int false := ⟨RX4, TX4, 2, tyX4, rfl, by decide, inX4g, Or.inr ⟨⟨"LostQuestions", am_memN 244 (by decide +kernel) rfl⟩, rfl⟩, tyX4_ok, nmX4, rfl, by decide +kernel, fun h => by cases h⟩
theorem fp_X7_165 : aFp RX7 165 6 18 .int false := ⟨RX7, TX7, 21, tyX7, rfl, by decide, inX7g, Or.inl (am_mem 856 (by decide +kernel) rfl), tyX7_ok, nmX7, rfl, by decide +kernel, fun h => by cases h⟩
theorem fp_X7_175 : aFp RX7 175 6 17 .int false := ⟨RX7, TX7, 21, tyX7, rfl, by decide, inX7g, Or.inl (am_mem 855 (by decide +kernel) rfl), tyX7_ok, nmX7, rfl, by decide +kernel, fun h => by cases h⟩
theorem fp_X7_188 : aFp RX7 188 6 8 .long false := ⟨RX7, TX7, 21, tyX7, rfl, by decide, inX7g, Or.inl (am_mem 846 (by decide +kernel) rfl), tyX7_ok, nmX7, rfl, by decide +kernel, fun h => by cases h⟩
theorem fp_X7_32 : aFp RX7 32 6 9 .long false := ⟨RX7, TX7, 21, tyX7, rfl, by decide, inX7g, Or.inl (am_mem 847 (by decide +kernel) rfl), tyX7_ok, nmX7, rfl, by decide +kernel, fun h => by cases h⟩
theorem fp_X7_57 : aFp RX7 57 6 10 .int false := ⟨RX7, TX7, 21, tyX7, rfl, by decide, inX7g, Or.inl (am_mem 848 (by decide +kernel) rfl), tyX7_ok, nmX7, rfl, by decide +kernel, fun h => by cases h⟩
theorem fp_X7_61 : aFp RX7 61 6 7 .int false := ⟨RX7, TX7, 21, tyX7, rfl, by decide, inX7g, Or.inl (am_mem 845 (by decide +kernel) rfl), tyX7_ok, nmX7, rfl, by decide +kernel, fun h => by cases h⟩
theorem fp_X7_86 : aFp RX7 86 6 13 .int false := ⟨RX7, TX7, 21, tyX7, rfl, by decide, inX7g, Or.inl (am_mem 851 (by decide +kernel) rfl), tyX7_ok, nmX7, rfl, by decide +kernel, fun h => by cases h⟩
