/** Edges of promises 34 to 42: parted, found, two LIBRARIES, habits, lots. */
final class FindEdges extends Bench {
    private static final int LAST_SEED = 2147483646;

    FindEdges(Due due) {
        super(due);
    }

    void p34_withoutCardsItIsState() {
        refusedIn(Bench::bare, STATE, LostQuestions::parts);
        refusedIn(o -> {
            laysIn(o, 0, 8);
            o.at(0, 0);
        }, STATE, LostQuestions::parts);
    }

    void p34_ofOneCardNoneIsAsNearAsOne() {
        read("n500");
        due(x.parts(), 0, 0);
        read("n000");
        due(x.parts(), 0, 1);
    }

    void p34_alikeCardsCannotBeParted() {
        read("n500 n500");
        due(x.parts(), 0, 0);
        read("n000 n000");
        due(x.parts(), 0, 2);
    }

    void p34_halfOfThem() {
        read("n500 n600");
        due(x.parts(), 55, 1);
        read("n800 n900");
        due(x.parts(), 88, 1);
    }

    void p34_oneLessThanHalfIsAsNearAsOneMore() {
        read("n100 n200 n300");
        due(x.parts(), 11, 1);
        read("n000 n000 n100");
        due(x.parts(), 0, 2);
    }

    void p34_nearerIsAheadOfFewerNumbers() {
        read("n000 n100 n200 n300");
        due(x.parts(), 1, 2);
        read("n000 n300 n600 n900");
        due(x.parts(), 3, 2);
        read("n000 n900 n900 n900 n900 n900 n900");
        due(x.parts(), 0, 1);
    }

    void p34_allNumbersAreTheWidest() {
        // three NUMBERS are 0, one is 9: none parts them by halves but PLACES from 0 to 9
        read("p000 p900 n000 n000");
        due(x.parts(), 209, 2);
    }

    void p34_fewerNumbersAreAheadOfTheFirst() {
        read("n100 n200 n300 n300");
        due(x.parts(), 33, 2);
    }

    void p34_fewerNumbersAreAheadOfALowerKind() {
        // NUMBERS 6 to 8 would part them by halves, too
        read("p500 p500 p600 n600 n800 n900");
        due(x.parts(), 256, 3);
    }

    void p34_ofAlikeOnesTheFirst() {
        // YES 0 to 1, NUMBERS 2 to 3 would do as well
        read("y000 y500 n200 n300");
        due(x.parts(), 1, 2);
        // PLACES 5 to 5 would do as well
        read("p500 p500 n400 n600");
        due(x.parts(), 55, 2);
        read("p500 p500 n500 n500");
        due(x.parts(), 255, 2);
    }

    void p34_theLastQuestionThereIs() {
        read("b800 b800 p900 p900");
        due(x.parts(), 599, 2);
    }

    void p34_freeOrNot() {
        read("n500 n600 q0551");
        x.take(0, 0);
        due(x.parts(), 55, 1);
    }

    void p35_noCardInItIsBad() {
        refused(BAD, o -> o.finds(0));
        refusedIn(Bench::bare, BAD, o -> o.finds(0));
    }

    void p35_otherSetsAreBad() {
        refused(BAD, o -> o.finds(-1));
        refused(BAD, o -> o.finds(128));
        refused(BAD, o -> o.finds(LEAST));
        refused(BAD, o -> o.finds(MOST));
        refusedIn(Bench::cardsAlone, BAD, o -> o.finds(4));
        refusedIn(Bench::bare, BAD, o -> o.finds(1));
    }

    void p35_oneCardIsFoundAtOnce() {
        read(ALL);
        for (int c = 0; c < 7; c++) {
            x.card(0, 1);
            due(x.finds(1 << c), 0, NONE);
        }
        cardsAlone(x);
        due(x.finds(2), 0, NONE);
    }

    void p35_alikeCardsAreNotForSure() {
        read("n500 n500 q0551 q0661");
        x.card(0, 1);
        due(x.finds(3), NONE, 5);
    }

    void p35_withoutQuestionsNotForSure() {
        cardsAlone(x);
        x.card(0, 1);
        due(x.finds(3), NONE, 5);
    }

    void p35_someForSureAreNotAll() {
        read("n500 n600 n600 q0551");
        x.card(0, 1);
        due(x.finds(3), 1, 0);
        due(x.finds(7), NONE, 0);
        read("n600 n600 n500 q0661");
        due(x.finds(6), 1, 0);
        due(x.finds(7), NONE, 0);
        read("n600 n600 n500 n500 q0661");
        due(x.finds(5), 1, 0);
        due(x.finds(15), NONE, 0);
    }

    void p35_noneIsNeededBehindAnother() {
        read("n500 n600 q0551");
        due(x.finds(3), 1, 0);
        due(x.finds(2), 0, NONE);
        x.parts();
        due(x.finds(1), 0, NONE);
    }

    void p35_sevenByThree() {
        read("n000 n100 n200 n300 n400 n500 n600 q0441 q0031 q0011 q0001 q0221 q0451");
        due(x.finds(127), 3, 1);
    }

    void p35_sevenBySix() {
        read("n000 n100 n200 n300 n400 n500 n600 q0001 q0111 q0221 q0331 q0441 q0551");
        due(x.finds(127), 6, 0);
        due(x.finds(126), 5, 1);
        due(x.finds(96), 1, 5);
    }

    void p35_theFirstOfAlikeQuestions() {
        read("n500 n600 q0771 q0661 q0551");
        due(x.finds(3), 1, 1);
    }

    void p35_fewerQuestionsAreAheadOfTheFirst() {
        read("n000 n100 n200 n300 q0001 q0111 q0011 q0221");
        due(x.finds(15), 2, 2);
    }

    void p35_takenOrNotWhateverTheTruth() {
        read("n500 n600 q0551");
        x.truth(0, 9);
        x.take(0, 0);
        due(x.finds(3), 1, 0);
    }

    void p36_anotherRowIsBad() {
        refused(BAD, o -> o.left(-1));
        refused(BAD, o -> o.left(6));
        refused(BAD, o -> o.left(LEAST));
        refused(BAD, o -> o.left(MOST));
    }

    void p36_aMissingRowIsNothing() {
        finds(NOTHING, o -> o.left(2));
        findsIn(Bench::bare, NOTHING, o -> o.left(0));
    }

    /** The rich scene with ROW 4 of these places. */
    private static Scene richWith(int... places) {
        return o -> {
            rich(o);
            laysIn(o, 4, places);
        };
    }

    void p36_anUnevenRowIsSize() {
        findsIn(richWith(0), SIZE, o -> o.left(4));
        findsIn(richWith(0, 1, 0), SIZE, o -> o.left(4));
        findsIn(richWith(new int[39]), SIZE, o -> o.left(4));
    }

    void p36_sizeIsAheadOfUnlike() {
        findsIn(richWith(7), SIZE, o -> o.left(4));
        findsIn(richWith(0, 2, 0), SIZE, o -> o.left(4));
    }

    void p36_noQuestionIsUnlike() {
        findsIn(richWith(-1, 1), UNLIKE, o -> o.left(4));
        findsIn(richWith(7, 1), UNLIKE, o -> o.left(4));
        findsIn(richWith(LEAST, 0), UNLIKE, o -> o.left(4));
        findsIn(richWith(0, 1, 7, 0), UNLIKE, o -> o.left(4));
        findsIn(o -> laysIn(o, 4, 0, 0), UNLIKE, o -> o.left(4));
    }

    void p36_neither1Nor0IsUnlike() {
        findsIn(richWith(0, 2), UNLIKE, o -> o.left(4));
        findsIn(richWith(0, -1), UNLIKE, o -> o.left(4));
        findsIn(richWith(0, NONE), UNLIKE, o -> o.left(4));
        findsIn(richWith(0, MOST), UNLIKE, o -> o.left(4));
        findsIn(richWith(0, 1, 6, 1, 6, 2), UNLIKE, o -> o.left(4));
    }

    void p36_anEmptyRowLeavesAll() {
        x.row(0, 0);
        due(x.left(0), 0);
        read(ALL);
        due(x.left(0), 127);
    }

    void p36_fortyPlaces() {
        read("n500 n600 q0551 q0661");
        int[] places = new int[40];
        for (int i = 0; i < 40; i += 2) {
            places[i + 1] = 1;
        }
        lays(0, places);
        due(x.left(0), 1);
        x.lay(0, 38, 1);
        due(x.left(0), 0);
        x.lay(0, 39, 0);
        due(x.left(0), 1);
    }

    void p36_itFitsAndItDoesNot() {
        read("n500 n600 n700 q0561");
        lays(0, 0, 1);
        due(x.left(0), 3);
        lays(0, 0, 0);
        due(x.left(0), 4);
        lays(0, 0, 1, 0, 0);
        due(x.left(0), 0);
    }

    void p36_theLastQuestion() {
        read(ALL);
        lays(0, 6, 1);
        due(x.left(0), 8);
        lays(0, 6, 0);
        due(x.left(0), 127 - 8);
    }

    void p36_takenOrNot() {
        read("n500 q0551");
        x.take(0, 0);
        lays(0, 0, 1);
        due(x.left(0), 1);
    }

    void p37_withoutCardsNone() {
        lays(0, 8);
        x.at(0, 0);
        due(x.forged(), NONE, 8);
    }

    void p37_withoutQuestionsTheFirstByNone() {
        cardsAlone(x);
        due(x.forged(), 0, 0);
    }

    void p37_theFirstOfAlikeOnes() {
        read("n600 n500 n500 q0551");
        due(x.forged(), 1, 1);
        read("n500 n500 q0661");
        due(x.forged(), 0, 0);
    }

    void p37_allSevenByTheLastCard() {
        read("n600".repeat(6) + "n500" + "q0551".repeat(7));
        due(x.forged(), 6, 7);
    }

    void p37_takenOrNot() {
        read("n500 q0551 q0551");
        x.take(0, 0);
        due(x.forged(), 0, 2);
    }

    void p38_anotherRowIsBad() {
        refused(BAD, o -> o.beside(-1));
        refused(BAD, o -> o.beside(6));
        refused(BAD, o -> o.beside(LEAST));
        refused(BAD, o -> o.beside(MOST));
    }

    void p38_aMissingRowIsNothing() {
        finds(NOTHING, o -> o.beside(2));
        findsIn(Bench::bare, NOTHING, o -> o.beside(0));
    }

    void p38_moreThanSevenIsSize() {
        findsIn(richWith(new int[8]), SIZE, o -> o.beside(4));
        finds(SIZE, o -> o.beside(3));
    }

    void p38_sizeIsAheadOfUnlike() {
        findsIn(richWith(-1, 0, 0, 0, 0, 0, 0, 60), SIZE, o -> o.beside(4));
    }

    void p38_neitherKindNorNumberIsUnlike() {
        findsIn(richWith(60), UNLIKE, o -> o.beside(4));
        findsIn(richWith(-1), UNLIKE, o -> o.beside(4));
        findsIn(richWith(LEAST), UNLIKE, o -> o.beside(4));
        findsIn(richWith(MOST), UNLIKE, o -> o.beside(4));
        findsIn(richWith(0, 0, 0, 0, 0, 0, 60), UNLIKE, o -> o.beside(4));
    }

    void p38_theLeastAndTheMostOfCards() {
        read("n000 b800");
        lays(0, 0, 59);
        due(x.beside(0), 2, 0);
    }

    void p38_anEmptyRowHasNoPairs() {
        read(ALL);
        x.row(1, 0);
        due(x.beside(1), 0, 0);
    }

    void p38_withoutCardsThereAreNoPairs() {
        lays(0, 0, 59);
        due(x.beside(0), 0, 0);
    }

    void p38_sevenPairs() {
        read("n500".repeat(7));
        lays(0, 5, 5, 5, 5, 5, 5, 5);
        due(x.beside(0), 7, 0);
        lays(0, 15, 25, 35, 45, 55, 15, 25);
        due(x.beside(0), 0, 7);
    }

    void p38_oneOfEach() {
        read("n500 n500");
        lays(0, 5, 5, 5);
        due(x.beside(0), 2, 0);
        lays(0, 5);
        due(x.beside(0), 1, 0);
        lays(0, 5, 15, 25);
        due(x.beside(0), 1, 1);
    }

    void p38_theSameKindItselfAlone() {
        read("v000 b300");
        lays(0, 10, 24);
        due(x.beside(0), 0, 2);
    }

    void p38_byWhatTheyMeanNotSay() {
        read("t505 y700 b900");
        lays(0, 40, 11, 50);
        due(x.beside(0), 3, 0);
        lays(0, 45, 17, 59);
        due(x.beside(0), 0, 0);
    }

    void p39_withoutCardsNone() {
        due(x.habit(), 0, 0);
    }

    void p39_oneCardHasItsHabit() {
        read("n030");
        due(x.habit(), 1, 0);
    }

    void p39_ofAsManyTheLowestShelf() {
        read("n010 n000");
        due(x.habit(), 1, 1);
        read("n000 n030");
        due(x.habit(), 1, 2);
        read("n030 n020 n020 n030");
        due(x.habit(), 2, 1 + 8);
    }

    void p39_mostAreAheadOfTheLowest() {
        read("n000 n030 n030");
        due(x.habit(), 2, 1);
    }

    void p39_thatKindItselfAlone() {
        read("y000 y000 v010 p020 p020 b030 n010");
        due(x.habit(), 7, 0);
    }

    void p39_allSevenOnOneShelf() {
        read("n030".repeat(7));
        due(x.habit(), 7, 0);
        x.shelve(6, 0);
        due(x.habit(), 6, 64);
    }

    void p40_withoutCardsNone() {
        due(x.order(), 0);
    }

    void p40_fourKindsHaveAShelfEach() {
        read("n000 y000 p000 v000");
        due(x.order(), 3);
        read("n000 y010 p020 v030");
        due(x.order(), 0);
        read("n000 y010 p020 v030 n010 n020 n030");
        due(x.order(), 3);
    }

    void p40_anyFourKinds() {
        read("y000 p010 v020 t030");
        due(x.order(), 0);
        read("p000 v000 t000 b000 b010");
        due(x.order(), 3);
    }

    void p40_moreThanFourKindsCannotBe() {
        read("n000 y010 p020 v030 t000");
        due(x.order(), NONE);
        read("n000 y010 p020 v030 t000 b010");
        due(x.order(), NONE);
    }

    void p40_eachByItsOwnKindAlone() {
        read("y000 v000");
        due(x.order(), 1);
        read("n000 t000");
        due(x.order(), 1);
        read("p000 b000");
        due(x.order(), 1);
    }

    void p40_aKindMayHaveAllShelves() {
        read("n000 n010 n020 n030");
        due(x.order(), 0);
    }

    void p40_aKindMayHaveToLeaveForAnother() {
        read("n000 n010 n020 n030 y000");
        due(x.order(), 1);
        read("n000 n000 n010 n010 n020 n030 y000");
        due(x.order(), 2);
    }

    void p40_sevenOnOneShelf() {
        read("n000 n000 n000 y000 y000 p000 p000");
        due(x.order(), 4);
    }

    void p41_anotherRowIsBad() {
        refused(BAD, o -> o.byAge(-1));
        refused(BAD, o -> o.byAge(6));
        refused(BAD, o -> o.byAge(LEAST));
        refused(BAD, o -> o.byAge(MOST));
    }

    void p41_rowsAre0To5() {
        read("n500");
        for (int r = 0; r <= 5; r++) {
            due(x.byAge(r), 1);
            dueRow(r, 0);
        }
    }

    void p41_withoutCardsTheRowIsEmpty() {
        due(x.byAge(5), 0);
        due(x.count(6), 1);
        dueRow(5);
    }

    void p41_theOldestFirst() {
        read("n000 n009 n001 n008");
        due(x.byAge(0), 4);
        dueRow(0, 1, 3, 2, 0);
    }

    void p41_ofAlikeOnesTheFirst() {
        read("n005 n000 n005 n009 n000 n009 n005");
        due(x.byAge(0), 7);
        dueRow(0, 3, 5, 0, 2, 6, 1, 4);
    }

    void p41_theRowIsAnew() {
        read("n000 n009");
        x.row(0, 40);
        due(x.byAge(0), 2);
        dueRow(0, 1, 0);
    }

    void p41_byTheAgeNowTakenOrNot() {
        read("n000 n009 q0001");
        x.take(0, 0);
        x.age(1, 0);
        due(x.byAge(0), 2);
        dueRow(0, 0, 1);
    }

    void p42_anotherNumberOfReadersIsBad() {
        refused(BAD, o -> o.lots(0, 1));
        refused(BAD, o -> o.lots(21, 1));
        refused(BAD, o -> o.lots(-1, 1));
        refused(BAD, o -> o.lots(LEAST, 1));
        refused(BAD, o -> o.lots(MOST, 1));
    }

    void p42_anotherSeedIsBad() {
        refused(BAD, o -> o.lots(1, 0));
        refused(BAD, o -> o.lots(1, -1));
        refused(BAD, o -> o.lots(1, MOST));
        refused(BAD, o -> o.lots(1, LEAST));
    }

    void p42_withoutQuestionsItIsState() {
        refusedIn(Bench::bare, STATE, o -> o.lots(1, 1));
        refusedIn(Bench::cardsAlone, STATE, o -> o.lots(20, LAST_SEED));
    }

    void p42_badIsAheadOfState() {
        refusedIn(Bench::bare, BAD, o -> o.lots(0, 1));
        refusedIn(Bench::cardsAlone, BAD, o -> o.lots(1, 0));
    }

    void p42_withMoreThanFortyItIsFull() {
        refusedIn(Bench::forty, FULL, o -> o.lots(1, 1));
        refusedIn(o -> {
            forty(o);
            o.undo(21);
        }, FULL, o -> o.lots(20, 1));
    }

    void p42_badIsAheadOfFull() {
        refusedIn(Bench::forty, BAD, o -> o.lots(21, 1));
        refusedIn(Bench::forty, BAD, o -> o.lots(20, 0));
    }

    void p42_fortyItselfIsNotFull() {
        forty(x);
        x.undo(20);
        due(x.lots(20, 1) >= 0 ? 1 : 0, 1);
        forty(x);
        x.undo(39);
        due(x.lots(1, 1), 1);
        due(x.count(2), 40);
    }

    void p42_theFirstSeed() {
        // 48271 by 64 is 754: modulo 7 it is 5
        read("n500".repeat(7) + "q0551");
        due(x.lots(1, 1), 1);
        due(x.question(0, 5), 1, 5);
    }

    void p42_theLastSeed() {
        // 2147435376 by 64 is 33553677: modulo 7 it is 3
        read("n500".repeat(7) + "q0551");
        due(x.lots(1, LAST_SEED), 1);
        due(x.question(0, 5), 1, 3);
    }

    void p42_aNumberComesFromTheOneAhead() {
        // 48271: QUESTION 1, CARD 754 modulo 3; 182605794: QUESTION 0, the CARD at 2853215 modulo 2;
        // 1291394886: QUESTION 0, which is not FREE; 1914720637: QUESTION 1, nor is that
        read("n500 n500 n500 q0551 q0551 q0551");
        due(x.lots(4, 1), 2);
        due(x.question(1, 5), 1, 1);
        due(x.question(0, 5), 1, 2);
        due(x.question(2, 5), 1, NONE);
        due(x.count(2), 2);
    }

    void p42_noMoreReadersThanTold() {
        // the second one would take for QUESTION 0
        read("n500 n500 n500 q0551 q0551 q0551");
        due(x.lots(1, 1), 1);
        due(x.count(2), 1);
        due(x.question(0, 5), 1, NONE);
    }

    void p42_twentyReaders() {
        // each QUESTION that comes finds a CARD, once
        read(ANY);
        due(x.lots(20, 1), distinctOf(20, 7));
        due(x.count(2), distinctOf(20, 7));
        read(ANY);
        due(x.lots(4, 1), distinctOf(4, 7));
    }

    /** Of how many different QUESTIONS the first numbers of seed 1 tell. */
    private static int distinctOf(int numbers, int questions) {
        int seen = 0;
        long number = 1;
        for (int n = 0; n < numbers; n++) {
            number = 48271 * number % 2147483647;
            seen |= 1 << (int) (number % questions);
        }
        return Integer.bitCount(seen);
    }

    void p42_amongCardsThatFitTheLeastFirst() {
        read("n000 n500 n000 n500 q0551");
        due(x.lots(1, 1), 1);
        due(x.question(0, 5), 1, 1);
    }

    void p42_amongFreeCardsAlone() {
        // 48271 modulo 2 is 1, 754 modulo 2 is 0
        read("n500 n500 n500 q0551 q0551");
        x.take(0, 0);
        due(x.lots(1, 1), 1);
        due(x.question(1, 5), 1, 1);
    }

    void p42_ofAQuestionThatIsNotFreeNothingComes() {
        read("n500 n500 q0551");
        x.take(0, 0);
        due(x.lots(20, 1), 0);
        due(x.count(2), 1);
        due(x.question(0, 5), 1, 0);
    }

    void p42_whereNoFreeCardFitsNothingComes() {
        read("n500 q0661");
        due(x.lots(20, 7), 0);
        due(x.count(2), 0);
        read("n500 n600 q0551 q0551");
        x.take(0, 0);
        due(x.lots(20, 7), 0);
        due(x.count(2), 1);
    }

    void p42_whateverTheTruth() {
        read("n500 q0551");
        x.truth(0, 9);
        due(x.lots(1, 1), 1);
        due(x.right(), 0, 1);
    }

    void p42_eachIsATaking() {
        read("n500 n500 n500 q0551 q0551 q0551");
        x.lots(2, 1);
        due(x.undo(1), 1);
        due(x.question(1, 5), 1, 1);
        due(x.question(0, 5), 1, NONE);
    }
}
