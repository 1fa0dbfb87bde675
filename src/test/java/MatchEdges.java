/** Edges of promises 25 to 33: MATCHINGS, worlds. */
final class MatchEdges extends Bench {
    /** QUESTION 0 may have both CARDS, QUESTION 1 the first alone: one FULLEST MATCHING, crosswise. */
    private static final String CROSSWISE = "n500 n600 q0561 q0551";

    MatchEdges(Due due) {
        super(due);
    }

    void p25_anotherRowIsBad() {
        refused(BAD, o -> o.match(-1));
        refused(BAD, o -> o.match(6));
        refused(BAD, o -> o.match(LEAST));
        refused(BAD, o -> o.match(MOST));
    }

    void p25_rowsAre0To5() {
        read("n500 q0551");
        for (int r = 0; r <= 5; r++) {
            due(x.match(r), 1);
            dueRow(r, 0);
        }
    }

    void p25_withoutALibraryTheRowIsEmpty() {
        due(x.match(5), 0);
        due(x.count(6), 1);
        dueRow(5);
    }

    void p25_withoutQuestionsTheRowIsEmpty() {
        cardsAlone(x);
        due(x.match(0), 0);
        dueRow(0);
    }

    void p25_theRowIsAnew() {
        read("n500 q0551");
        x.row(0, 40);
        x.lay(0, 0, 77);
        due(x.match(0), 1);
        dueRow(0, 0);
    }

    void p25_whereNoneFitsIsNone() {
        read("n500 q0661 q0551");
        due(x.match(0), 1);
        dueRow(0, NONE, 0);
    }

    void p25_whereNoneMeansTheTruthIsNone() {
        read("n500 q0391");
        x.truth(0, 4);
        due(x.match(0), 0);
        dueRow(0, NONE);
        x.truth(0, 5);
        due(x.match(0), 1);
        dueRow(0, 0);
        x.truth(0, NONE);
        due(x.match(0), 1);
    }

    void p25_truthNoughtIsATruth() {
        read("n000 n100 q0191");
        x.truth(0, 0);
        due(x.match(0), 0);
        read("n100 n000 q0011");
        x.truth(0, 0);
        due(x.match(0), 1);
        dueRow(0, 1);
    }

    void p25_aQuestionThatIsNotFreeIsNone() {
        read("n500 n500 q0551 q0551");
        x.take(0, 1);
        due(x.match(0), 1);
        dueRow(0, NONE, 0);
        x.take(1, 0);
        due(x.match(0), 0);
        dueRow(0, NONE, NONE);
        x.bring(0);
        due(x.match(0), 1);
        dueRow(0, 1, NONE);
    }

    void p25_ofSeveralTakenCardsNoneIsMatched() {
        read("n500 n500 n500 q0551 q0551 q0551");
        x.take(0, 0);
        x.take(1, 1);
        due(x.match(0), 1);
        dueRow(0, NONE, NONE, 2);
    }

    void p25_sevenPairs() {
        read(ANY);
        due(x.match(0), 7);
        dueRow(0, 0, 1, 2, 3, 4, 5, 6);
    }

    void p25_ofAlikeOnesTheFirstByQuestions() {
        read("n500 n500 n500 q0551 q0551");
        due(x.match(0), 2);
        dueRow(0, 0, 1);
    }

    void p25_noneIsBehindAllCards() {
        read("n500 q0551 q0551");
        due(x.match(0), 1);
        dueRow(0, 0, NONE);
    }

    void p25_theFirstOfFullestOnesAlone() {
        read(CROSSWISE);
        due(x.match(0), 2);
        dueRow(0, 1, 0);
    }

    void p26_anotherRowIsBad() {
        refused(BAD, o -> o.wished(-1));
        refused(BAD, o -> o.wished(6));
        refused(BAD, o -> o.wished(LEAST));
        refused(BAD, o -> o.wished(MOST));
    }

    void p26_rowsAre0To5() {
        read("n500 q0551");
        for (int r = 0; r <= 5; r++) {
            due(x.wished(r), 1);
            dueRow(r, 0);
        }
    }

    void p26_withoutALibraryTheRowIsEmpty() {
        due(x.wished(5), 0);
        due(x.count(6), 1);
        dueRow(5);
    }

    void p26_withoutQuestionsTheRowIsEmpty() {
        cardsAlone(x);
        due(x.wished(0), 0);
        dueRow(0);
    }

    void p26_theRowIsAnew() {
        read("n500 q0551");
        x.row(0, 40);
        x.lay(0, 0, 77);
        due(x.wished(0), 1);
        dueRow(0, 0);
    }

    void p26_whereNoneFitsIsNone() {
        read("n500 q0669 q0551");
        due(x.wished(0), 1);
        dueRow(0, NONE, 0);
    }

    void p26_theMostThereCanBe() {
        read("n500".repeat(7) + "q0559".repeat(7));
        due(x.wished(0), 63);
        dueRow(0, 0, 1, 2, 3, 4, 5, 6);
    }

    void p26_moreWishedIsAheadOfFirst() {
        read("n500 q0558 q0559");
        due(x.wished(0), 9);
        dueRow(0, NONE, 0);
    }

    void p26_ofAlikeWishedOnesTheFirst() {
        read("n500 q0559 q0559");
        due(x.wished(0), 9);
        dueRow(0, 0, NONE);
        read("n500 n500 q0559");
        due(x.wished(0), 9);
        dueRow(0, 0);
    }

    void p26_together() {
        read("n500 n600 q0561 q0559");
        due(x.wished(0), 10);
        dueRow(0, 1, 0);
        read("n500 n600 q0565 q0564 q0559");
        due(x.wished(0), 14);
        dueRow(0, 1, NONE, 0);
    }

    void p26_whatIsNotFreeIsNotWished() {
        read("n500 n500 q0559 q0551");
        x.take(0, 0);
        due(x.wished(0), 1);
        dueRow(0, NONE, 1);
    }

    void p26_whereNoneMeansTheTruthIsNotWished() {
        read("n500 q0399 q0391");
        x.truth(0, 4);
        due(x.wished(0), 1);
        dueRow(0, NONE, 0);
    }

    void p26_itDoesNotCountWhatOtherCallsCounted() {
        read(CROSSWISE);
        x.match(0);
        due(x.wished(0), 2);
        dueRow(0, 1, 0);
        due(x.match(0), 2);
        due(x.fullest(), 1, 2);
        read("n500 q0661");
        due(x.match(0), 0);
        due(x.wished(0), 0);
        dueRow(0, NONE);
    }

    void p27_withoutALibraryThereIsOne() {
        due(x.fullest(), 1, 0);
    }

    void p27_whereNoneFitsThereIsOne() {
        read("n500 q0661 q1091");
        due(x.fullest(), 1, 0);
    }

    void p27_allTakenThereIsOne() {
        read("n500 q0551");
        x.take(0, 0);
        due(x.fullest(), 1, 0);
    }

    void p27_oneAloneHasAllItsPairs() {
        read(CROSSWISE);
        due(x.fullest(), 1, 2);
    }

    void p27_theMostThereCanBe() {
        read(ANY);
        due(x.fullest(), 5040, 0);
    }

    void p27_allSevenPairsInAll() {
        read("n000 n100 n200 n300 n400 n500 n600 q0001 q0111 q0221 q0331 q0441 q0551 q0661");
        due(x.fullest(), 1, 7);
    }

    void p27_lesserMatchingsDoNotCount() {
        read("n500 n500 n900 q0551 q0991");
        due(x.fullest(), 2, 1);
    }

    void p27_differentQuestionsAreDifferentMatchings() {
        read("n500 q0551 q0551 q0551");
        due(x.fullest(), 3, 0);
    }

    void p28_anotherCardIsBad() {
        refused(BAD, o -> o.may(-1));
        refused(BAD, o -> o.may(7));
        refused(BAD, o -> o.may(LEAST));
        refused(BAD, o -> o.may(MOST));
        refusedIn(Bench::bare, BAD, o -> o.may(0));
    }

    void p28_noneAtAll() {
        read("n500 n600 q0551");
        due(x.may(1), 0);
        cardsAlone(x);
        due(x.may(0), 0);
    }

    void p28_allSeven() {
        read(ANY);
        due(x.may(0), 127);
        due(x.may(6), 127);
    }

    void p28_aFittingPairOfNoFullestOneIsNone() {
        read(CROSSWISE);
        due(x.may(0), 2);
        due(x.may(1), 1);
    }

    void p28_whatIsNotFreeMayNot() {
        read("n500 n500 q0551 q0551");
        x.take(0, 0);
        due(x.may(0), 0);
        due(x.may(1), 2);
    }

    void p29_anotherQuestionIsBad() {
        refused(BAD, o -> o.sure(-1));
        refused(BAD, o -> o.sure(7));
        refused(BAD, o -> o.sure(LEAST));
        refused(BAD, o -> o.sure(MOST));
        refusedIn(Bench::cardsAlone, BAD, o -> o.sure(0));
        refusedIn(Bench::bare, BAD, o -> o.sure(0));
    }

    void p29_inTheOnlyOne() {
        read(CROSSWISE);
        due(x.sure(0), 1);
        due(x.sure(1), 0);
    }

    void p29_twoCardsAreNotSure() {
        read("n500 n500 q0551");
        due(x.sure(0), NONE);
    }

    void p29_aQuestionThatMayBeLeftOutIsNotSure() {
        read("n500 q0551 q0551");
        due(x.sure(0), NONE);
        due(x.sure(1), NONE);
    }

    void p29_whereNoneFitsIsNone() {
        read("n500 q0661");
        due(x.sure(0), NONE);
    }

    void p29_whatIsNotFreeIsNotSure() {
        read("n500 q0551");
        x.take(0, 0);
        due(x.sure(0), NONE);
    }

    void p30_withoutALibraryNone() {
        due(x.test(), NONE, 0);
    }

    void p30_pairsInAllNeedNoTest() {
        rich(x);
        read(CROSSWISE);
        due(x.test(), NONE, -6);
    }

    void p30_pairsInNoneNeedNoTest() {
        rich(x);
        read("n500 q0661");
        due(x.test(), NONE, -6);
    }

    void p30_theFirstOfAlikeOnes() {
        read("n500 n500 q0551");
        due(x.test(), 0, 1);
        read("n500 q0551 q0551");
        due(x.test(), 0, 1);
        read(ANY);
        due(x.test(), 0, 4320);
    }

    void p30_tenTimesTheQuestionAndTheCard() {
        read("n000 n100 n200 n300 n400 n500 n500 q0001 q0111 q0221 q0331 q0441 q0991 q0551");
        due(x.test(), 65, 1);
    }

    void p30_halvesAreBest() {
        // QUESTION 0 with CARD 0, 1 or 2, QUESTION 1 with 1 or 2: of four, two have 0 with 0
        read("n300 n400 n500 q0351 q0451");
        due(x.test(), 0, 2);
        // CARD 0 last: 0 with 0 or 1 is in one of four, 0 with 2 in two
        read("n400 n500 n300 q0351 q0451");
        due(x.test(), 2, 2);
    }

    void p30_atWorstItIsNotInIt() {
        read("n500 n500 n500 q0551");
        due(x.test(), 0, 2);
    }

    void p31_anotherQuestionIsBad() {
        refused(BAD, o -> o.odds(-1, 0));
        refused(BAD, o -> o.odds(7, 0));
        refused(BAD, o -> o.odds(LEAST, 0));
        refused(BAD, o -> o.odds(MOST, 0));
        refusedIn(Bench::cardsAlone, BAD, o -> o.odds(0, 0));
    }

    void p31_anotherCardIsBad() {
        refused(BAD, o -> o.odds(0, -1));
        refused(BAD, o -> o.odds(0, 7));
        refused(BAD, o -> o.odds(0, LEAST));
        refused(BAD, o -> o.odds(0, MOST));
    }

    void p31_aSurePairIsOneByOne() {
        read(CROSSWISE);
        due(x.odds(0, 1), 1);
        dueChances(1, 1);
    }

    void p31_aPairOfNoneIsNoughtByOne() {
        read(CROSSWISE);
        x.odds(0, 1);
        due(x.odds(0, 0), 1);
        dueChances(0, 1);
        read("n500 q0661");
        due(x.odds(0, 0), 1);
        dueChances(0, 1);
    }

    void p31_lowestTerms() {
        read(ANY);
        due(x.odds(0, 6), 1);
        dueChances(1, 7);
        read("n300 n400 n500 q0351 q0451");
        due(x.odds(0, 0), 1);
        dueChances(1, 2);
        due(x.odds(0, 1), 1);
        dueChances(1, 4);
    }

    void p31_anUpperNumberAboveOne() {
        // three FULLEST ones: 0 with 0, and 1 with 1 or 2; 0 with 1, and 1 with 2
        read("n300 n400 n500 q0341 q0451");
        due(x.odds(0, 0), 1);
        dueChances(2, 3);
        due(x.odds(1, 2), 1);
        dueChances(2, 3);
    }

    void p31_whatIsNotFreeIsNought() {
        read("n500 n500 q0551 q0551");
        x.take(0, 0);
        due(x.odds(0, 0), 1);
        dueChances(0, 1);
        due(x.odds(1, 0), 1);
        dueChances(0, 1);
        due(x.odds(0, 1), 1);
        dueChances(0, 1);
        due(x.odds(1, 1), 1);
        dueChances(1, 1);
    }

    void p32_withoutQuestionsThereIsOne() {
        due(x.worlds(), 1);
        cardsAlone(x);
        due(x.worlds(), 1);
    }

    void p32_oneNumberIsOneWay() {
        read("n500 q0551 q0001 q0991");
        due(x.worlds(), 1);
    }

    void p32_bothEndsCount() {
        read("n500 q0561 q0091");
        due(x.worlds(), 20);
    }

    void p32_asManyAsThereCanBe() {
        read("n500" + "q0091".repeat(7));
        due(x.worlds(), 10000000);
    }

    void p32_aToldTruthIsOneWay() {
        read("n500 q0091 q0091");
        x.truth(0, 0);
        due(x.worlds(), 10);
        x.truth(1, 9);
        due(x.worlds(), 1);
        x.truth(0, NONE);
        due(x.worlds(), 10);
    }

    void p32_anAnsweredQuestionIsOneWay() {
        read("n500 q0091 q0091");
        x.take(0, 0);
        due(x.worlds(), 10);
        x.bring(0);
        due(x.worlds(), 100);
    }

    void p32_aWrongOneIsNoWay() {
        read("n500 q0091 q0091");
        x.take(0, 0);
        x.truth(0, 5);
        due(x.worlds(), 10);
        x.truth(0, 4);
        due(x.worlds(), 0);
        x.truth(0, 0);
        due(x.worlds(), 0);
        x.bring(0);
        due(x.worlds(), 10);
    }

    void p32_aToldTruthBeyondToWhatOfAFreeOneIsOneWay() {
        read("n500 q0551 q0091");
        x.truth(0, 9);
        due(x.worlds(), 10);
    }

    void p32_aTakenCardThatAgedToEitherEndIsOneWay() {
        read("t500 q0571 q0091");
        x.take(0, 0);
        due(x.worlds(), 10);
        x.age(0, 2);
        due(x.worlds(), 10);
    }

    void p32_aTakenCardThatAgedBeyondEitherEndIsNoWay() {
        read("t500 q0571 q0091");
        x.take(0, 0);
        x.age(0, 3);
        due(x.worlds(), 0);
        x.age(0, 9);
        due(x.worlds(), 0);
    }

    void p33_withoutQuestionsThereIsNone() {
        due(x.never(), 0);
        cardsAlone(x);
        due(x.never(), 0);
    }

    void p33_allSeven() {
        read("n500" + "q0661".repeat(7));
        due(x.never(), 127);
    }

    void p33_noneFitsAndTheTruthIsUnknown() {
        read("n500 q0551 q0661 q1091");
        due(x.never(), 2 + 4);
    }

    void p33_noneThatFitsMeansTheTruth() {
        read("n500 n700 q0591");
        x.truth(0, 6);
        due(x.never(), 1);
        x.truth(0, 7);
        due(x.never(), 0);
        x.truth(0, 0);
        due(x.never(), 1);
        x.truth(0, NONE);
        due(x.never(), 0);
    }

    void p33_whatMeansTheTruthButDoesNotFit() {
        read("n500 q0661 q1091");
        x.truth(0, 5);
        x.truth(1, 5);
        due(x.never(), 3);
    }

    void p33_truthNoughtMayBeMeant() {
        read("n000 q0091");
        x.truth(0, 0);
        due(x.never(), 0);
    }

    void p33_takenOrNot() {
        read("n500 q0551 q0551");
        x.take(0, 0);
        due(x.never(), 0);
    }

    void p33_answeredOrNot() {
        read("n500 q0391 q0551");
        x.take(0, 0);
        x.truth(0, 4);
        due(x.never(), 1);
        x.truth(0, 5);
        due(x.never(), 0);
    }
}
