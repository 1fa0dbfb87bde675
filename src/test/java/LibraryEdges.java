/** Edges of promises 10 to 17: what a TEXT tells, CARDS and QUESTIONS. */
final class LibraryEdges extends Bench {
    private static final String SEVEN_CARDS = "n000".repeat(7), SEVEN_QUESTIONS = "q0001".repeat(7);

    LibraryEdges(Due due) {
        super(due);
    }

    void p10_anotherTextIsBad() {
        refused(BAD, o -> o.fault(-1));
        refused(BAD, o -> o.fault(4));
        refused(BAD, o -> o.fault(LEAST));
        refused(BAD, o -> o.fault(MOST));
    }

    void p10_aMissingTextIsNothing() {
        finds(NOTHING, o -> o.fault(2));
        findsIn(Bench::bare, NOTHING, o -> o.fault(0));
        findsIn(Bench::bare, NOTHING, o -> o.fault(3));
    }

    void p10_anEmptyTextFailsAtItsSize() {
        dueFault("", 0);
    }

    void p10_blanksAloneFailAtTheirSize() {
        dueFault(" ", 1);
        dueFault(" ".repeat(80), 80);
    }

    void p10_oneCardIsEnough() {
        dueFault("n000", NONE);
    }

    void p10_sevenCards() {
        dueFault(SEVEN_CARDS, NONE);
    }

    void p10_anEighthCardFailsAtItsPlace() {
        dueFault(SEVEN_CARDS + "n000", 28);
        dueFault(SEVEN_CARDS + "  y000", 30);
        dueFault(SEVEN_CARDS + "n", 28);
        dueFault(SEVEN_CARDS + "nx", 28);
    }

    void p10_sevenQuestions() {
        dueFault("n000" + SEVEN_QUESTIONS, NONE);
        dueFault(SEVEN_CARDS + SEVEN_QUESTIONS, NONE);
    }

    void p10_anEighthQuestionFailsAtItsPlace() {
        dueFault("n000" + SEVEN_QUESTIONS + "q0001", 39);
        dueFault("n000" + SEVEN_QUESTIONS + " q0001", 40);
        dueFault("n000" + SEVEN_QUESTIONS + "q", 39);
        dueFault("n000" + SEVEN_QUESTIONS + "q9", 39);
    }

    void p10_aCardBehindAQuestionFailsAtItsPlace() {
        for (char letter : "nypvtb".toCharArray()) {
            dueFault("n000q0001" + letter + "000", 9);
        }
        dueFault("n000 q0001 nx", 11);
        dueFault("n000 q0001 n", 11);
    }

    void p10_aQuestionAheadOfAllCardsFailsAtItsPlace() {
        dueFault("q0001", 0);
        dueFault("  q0001 n000", 2);
        dueFault("q9", 0);
        dueFault("q", 0);
    }

    void p10_allLettersOfCards() {
        dueFault("n000y000p000v000t000b000", NONE);
    }

    void p10_anotherLetterFailsAtItsPlace() {
        for (char letter : "acmoqruwxzNYPVTBQ09/:_!".toCharArray()) {
            dueFault(letter + "000", 0);
            dueFault("n000 " + letter + "x00", letter == 'q' ? 6 : 5);
        }
    }

    void p10_aLetterByItsWholeByte() {
        x.text(3, 4);
        for (int i = 1; i < 4; i++) {
            x.put(3, i, '0');
        }
        int[] bytes = {'n' - 128, 'n' + 128, 0, 127, -128, -1, 31, 33, 9, 10, 160};
        for (int v : bytes) {
            x.put(3, 0, v);
            due(x.fault(3), 0);
        }
        x.put(3, 0, 'n' + 256);
        due(x.fault(3), NONE);
    }

    void p10_blankIs32Alone() {
        write(3, " n000 ");
        due(x.fault(3), NONE);
        x.put(3, 0, 9);
        due(x.fault(3), 0);
        x.put(3, 0, 32 + 256);
        due(x.fault(3), NONE);
        x.put(3, 5, 0);
        due(x.fault(3), 5);
        x.put(3, 5, 160);
        due(x.fault(3), 5);
    }

    void p10_whatACardSaysIsAFigure() {
        dueFault("n000", NONE);
        dueFault("n900", NONE);
        dueFault("n/00", 1);
        dueFault("n:00", 1);
        dueFault("nn00", 1);
    }

    void p10_theShelfIs0To3() {
        dueFault("n000", NONE);
        dueFault("n030", NONE);
        dueFault("n040", 2);
        dueFault("n090", 2);
        dueFault("n0/0", 2);
        dueFault("n0a0", 2);
    }

    void p10_theAgeIsAFigure() {
        dueFault("n000", NONE);
        dueFault("n009", NONE);
        dueFault("n00/", 3);
        dueFault("n00:", 3);
        dueFault("n00q", 3);
    }

    void p10_theKindAskedForIs0To5() {
        dueFault("n000q0001", NONE);
        dueFault("n000q5001", NONE);
        dueFault("n000q6001", 5);
        dueFault("n000q9001", 5);
        dueFault("n000q/001", 5);
        dueFault("n000qn001", 5);
    }

    void p10_fromWhatIsAFigure() {
        dueFault("n000q0091", NONE);
        dueFault("n000q0991", NONE);
        dueFault("n000q0/91", 6);
        dueFault("n000q0:91", 6);
    }

    void p10_toWhatIsNoLess() {
        dueFault("n000q0001", NONE);
        dueFault("n000q0551", NONE);
        dueFault("n000q0541", 7);
        dueFault("n000q0901", 7);
        dueFault("n000q0981", 7);
    }

    void p10_toWhatIsAFigure() {
        dueFault("n000q0091", NONE);
        dueFault("n000q00/1", 7);
        dueFault("n000q09:1", 7);
    }

    void p10_wishedIs1To9() {
        dueFault("n000q0001", NONE);
        dueFault("n000q0009", NONE);
        dueFault("n000q0000", 8);
        dueFault("n000q000/", 8);
        dueFault("n000q000:", 8);
    }

    void p10_aCardThatEndsTooEarlyFailsAtTheSize() {
        dueFault("n", 1);
        dueFault("n0", 2);
        dueFault("n00", 3);
        dueFault("n000 y", 6);
    }

    void p10_aQuestionThatEndsTooEarlyFailsAtTheSize() {
        dueFault("n000q", 5);
        dueFault("n000q0", 6);
        dueFault("n000q00", 7);
        dueFault("n000q000", 8);
    }

    void p10_atTheMostSizeTheEndIsTooEarlyToo() {
        dueFault(" ".repeat(76) + "n000", NONE);
        dueFault(" ".repeat(77) + "n00", 80);
        dueFault("n000" + " ".repeat(71) + "q0001", NONE);
        dueFault("n000" + " ".repeat(75) + "q", 80);
    }

    void p10_noBlanksWithinACard() {
        dueFault("n 000", 1);
        dueFault("n0 00", 2);
        dueFault("n00 0", 3);
    }

    void p10_noBlanksWithinAQuestion() {
        dueFault("n000q 0001", 5);
        dueFault("n000q0 001", 6);
        dueFault("n000q00 01", 7);
        dueFault("n000q000 1", 8);
    }

    void p10_blanksAsManyAsWanted() {
        dueFault("n000y000q0001q0001", NONE);
        dueFault(" n000 y000 q0001 q0001 ", NONE);
        dueFault("    n000     y000   q0001       q0001     ", NONE);
    }

    void p10_theFirstFaultIsTold() {
        dueFault("n0xx", 2);
        dueFault("n000 x000 q0001", 5);
        dueFault("n000 q9540", 6);
        dueFault("n000 q0540", 8);
    }

    void p10_nothingIsReadByIt() {
        rich(x);
        LostQuestions other = new LostQuestions();
        rich(other);
        x.text(2, 4);
        other.text(2, 4);
        due(x.fault(2), 4);
        due(x.fault(0), NONE);
        due(x.fault(1), 2);
        due(x.digest(), other.digest());
        due(x.on(2), 2);
        other.on(2);
        due(x.digest(), other.digest());
    }

    void p11_anotherTextIsBad() {
        refused(BAD, o -> o.library(-1));
        refused(BAD, o -> o.library(4));
        refused(BAD, o -> o.library(LEAST));
        refused(BAD, o -> o.library(MOST));
    }

    void p11_aMissingTextIsNothing() {
        finds(NOTHING, o -> o.library(2));
        findsIn(Bench::bare, NOTHING, o -> o.library(0));
    }

    void p11_aFaultIsState() {
        refused(STATE, o -> o.library(1));
        refused(STATE, o -> o.library(3));
    }

    void p11_aLateFaultIsStateAndReadsNothing() {
        refusedIn(o -> {
            rich(o);
            o.put(0, 75, '0');
        }, STATE, o -> o.library(0));
    }

    void p11_howManyCards() {
        read("n000");
        due(x.library(0), 1);
        due(x.count(1), 0);
        write(1, SEVEN_CARDS + SEVEN_QUESTIONS);
        due(x.library(1), 7);
        due(x.count(1), 7);
    }

    void p11_itIsByAnyText() {
        for (int t = 0; t <= 3; t++) {
            write(t, "n000".repeat(t + 1));
            due(x.library(t), t + 1);
        }
    }

    void p11_nothingIsTakenAnew() {
        rich(x);
        due(x.library(0), 7);
        due(x.count(2), 0);
        due(x.count(3), 7);
        due(x.count(4), 7);
        due(x.undo(1), BAD);
    }

    void p11_noTruthsAnew() {
        rich(x);
        x.library(0);
        for (int q = 0; q < 7; q++) {
            due(x.question(q, 4), 1, NONE);
        }
    }

    void p11_shelvesAndAgesAnew() {
        rich(x);
        x.library(0);
        due(x.card(6, 3), 1, 2);
        due(x.card(0, 4), 1, 2);
    }

    void p11_againAndAgainItIsAnew() {
        rich(x);
        for (int n = 0; n < 3; n++) {
            due(x.library(0), 7);
            due(x.count(2), 0);
            due(x.count(3), 7);
            due(x.question(0, 4), 1, NONE);
            x.truth(0, 1);
            x.take(0, 0);
        }
    }

    void p11_keptLibrariesGo() {
        rich(x);
        x.keep(1);
        x.library(0);
        due(x.count(8), 0);
        for (int k = 0; k < 3; k++) {
            found(x.on(k), NOTHING);
        }
    }

    void p11_rowsTextsAndWhatWasToldStay() {
        rich(x);
        due(x.library(0), 7, -6);
        due(x.count(6), 3);
        due(x.count(7), 3);
        dueChances(1, 2);
        due(x.finding(), NOUGHT);
        dueRow(0, 5, -6, 7, 8);
    }

    void p11_aLesserLibraryHasNoMoreThanItTells() {
        read(ALL);
        write(1, "n900 q0991");
        due(x.library(1), 1);
        due(x.card(1, 0), BAD);
        due(x.question(1, 0), BAD);
        due(x.fits(0), 1);
        due(x.fits(1), BAD);
    }

    void p11_laterSignsOfTheTextDoNotCount() {
        read("n500 q0551");
        x.put(0, 1, '6');
        x.text(0, 0);
        due(x.card(0, 1), 1, 5);
        due(x.count(0), 1);
    }

    void p12_anotherCardIsBad() {
        refused(BAD, o -> o.card(-1, 0));
        refused(BAD, o -> o.card(7, 0));
        refused(BAD, o -> o.card(LEAST, 0));
        refused(BAD, o -> o.card(MOST, 0));
        refusedIn(Bench::cardsAlone, BAD, o -> o.card(2, 0));
        refusedIn(Bench::bare, BAD, o -> o.card(0, 0));
    }

    void p12_anotherWhatIsBad() {
        refused(BAD, o -> o.card(0, -1));
        refused(BAD, o -> o.card(0, 6));
        refused(BAD, o -> o.card(0, LEAST));
        refused(BAD, o -> o.card(0, MOST));
    }

    void p12_theFirstAndTheLastCard() {
        read(ALL);
        int[] first = {0, 7, 7, 0, 2, NONE};
        int[] last = {0, 4, 4, 2, 0, NONE};
        for (int what = 0; what <= 5; what++) {
            due(x.card(0, what), 1, first[what]);
            due(x.card(6, what), 1, last[what]);
        }
    }

    void p12_theLeastAndTheMostOfEach() {
        read("n000 b939");
        int[] least = {0, 0, 0, 0, 0, NONE};
        int[] most = {5, 9, 0, 3, 9, NONE};
        for (int what = 0; what <= 5; what++) {
            due(x.card(0, what), 1, least[what]);
            due(x.card(1, what), 1, most[what]);
        }
    }

    void p12_whichQuestionItAnswers() {
        read("n500 n500 q0551 q0551");
        due(x.card(0, 5), 1, NONE);
        x.take(1, 0);
        due(x.card(0, 5), 1, 1);
        due(x.card(1, 5), 1, NONE);
        x.take(0, 1);
        due(x.card(1, 5), 1, 0);
        x.bring(1);
        due(x.card(0, 5), 1, NONE);
    }

    void p13_anotherQuestionIsBad() {
        refused(BAD, o -> o.question(-1, 0));
        refused(BAD, o -> o.question(7, 0));
        refused(BAD, o -> o.question(LEAST, 0));
        refused(BAD, o -> o.question(MOST, 0));
        refusedIn(Bench::cardsAlone, BAD, o -> o.question(0, 0));
        refusedIn(Bench::bare, BAD, o -> o.question(0, 0));
    }

    void p13_anotherWhatIsBad() {
        refused(BAD, o -> o.question(0, -1));
        refused(BAD, o -> o.question(0, 6));
        refused(BAD, o -> o.question(0, LEAST));
        refused(BAD, o -> o.question(0, MOST));
    }

    void p13_theFirstAndTheLastQuestion() {
        read(ALL);
        int[] first = {0, 3, 9, 3, NONE, NONE};
        int[] last = {3, 0, 0, 5, NONE, NONE};
        for (int what = 0; what <= 5; what++) {
            due(x.question(0, what), 1, first[what]);
            due(x.question(6, what), 1, last[what]);
        }
    }

    void p13_theLeastAndTheMostOfEach() {
        read("n000 q0001 q5999");
        int[] least = {0, 0, 0, 1, NONE, NONE};
        int[] most = {5, 9, 9, 9, NONE, NONE};
        for (int what = 0; what <= 5; what++) {
            due(x.question(0, what), 1, least[what]);
            due(x.question(1, what), 1, most[what]);
        }
    }

    void p13_itsTruthAndItsCard() {
        read("n500 n500 q0551 q0551");
        x.truth(1, 0);
        due(x.question(1, 4), 1, 0);
        due(x.question(0, 4), 1, NONE);
        x.take(1, 0);
        due(x.question(1, 5), 1, 0);
        due(x.question(0, 5), 1, NONE);
        x.bring(1);
        due(x.question(1, 5), 1, NONE);
        due(x.question(1, 4), 1, 0);
    }

    void p14_anotherCardIsBad() {
        refused(BAD, o -> o.mark(-1, 1));
        refused(BAD, o -> o.mark(7, 1));
        refused(BAD, o -> o.mark(LEAST, 1));
        refused(BAD, o -> o.mark(MOST, 1));
        refusedIn(Bench::bare, BAD, o -> o.mark(0, 1));
    }

    void p14_kind0IsBad() {
        for (int c = 0; c < 7; c++) {
            int card = c;
            refused(BAD, o -> o.mark(card, 0));
        }
    }

    void p14_anotherKindIsBad() {
        refused(BAD, o -> o.mark(5, -1));
        refused(BAD, o -> o.mark(5, 6));
        refused(BAD, o -> o.mark(5, LEAST));
        refused(BAD, o -> o.mark(5, MOST));
    }

    void p14_badIsAheadOfUnlike() {
        refused(BAD, o -> o.mark(7, 5));
        refused(BAD, o -> o.mark(0, 6));
    }

    void p14_aCardOfAnotherKindIsUnlike() {
        // by KINDS 1 to 5, of CARDS 0 to 5 in the rich scene: n y p v t b
        boolean[][] is = {{false, true, false, true, false, false}, {false, false, true, false, false, true},
            {false, false, false, true, false, false}, {false, false, false, false, true, false},
            {false, false, false, false, false, true}};
        for (int k = 1; k <= 5; k++) {
            for (int c = 0; c < 6; c++) {
                int kind = k;
                int card = c;
                if (!is[k - 1][c]) {
                    finds(UNLIKE, o -> o.mark(card, kind));
                }
            }
        }
        rich(x);
        for (int k = 1; k <= 5; k++) {
            for (int c = 0; c < 6; c++) {
                if (is[k - 1][c]) {
                    due(x.mark(c, k) >= 0 ? 1 : 0, 1);
                }
            }
        }
    }

    void p14_aYesCountsItself() {
        read("y900 n100 p100 t100");
        due(x.mark(0, 1), 1);
    }

    void p14_aYesCountsNeversThatMeanTheSame() {
        read("y400 y500 v900 v000 n000 t000 p000");
        due(x.mark(0, 1), 3);
        due(x.mark(1, 1), 1);
        due(x.mark(2, 1), 3);
        due(x.mark(3, 1), 3);
    }

    void p14_aYesMayCountAllSeven() {
        read("y500 y500 y600 y700 y800 y900 y900");
        due(x.mark(6, 1), 7);
    }

    void p14_aPlaceAloneOnItsShelfCountsNone() {
        read("p000 n010 b020 n030");
        due(x.mark(0, 2), 0);
        due(x.mark(2, 2), 0);
    }

    void p14_aPlaceCountsAllOthersOfItsShelf() {
        read("n030 y030 p030 v030 t030 b030 n030");
        due(x.mark(2, 2), 6);
        due(x.mark(5, 2), 6);
        x.shelve(0, 0);
        due(x.mark(2, 2), 5);
    }

    void p14_aNeverWithoutQuestionsFitsNone() {
        read("v000");
        due(x.mark(0, 3), 0);
    }

    void p14_aNeverMayFitAllSeven() {
        read("v500 q0001 q1001 q3001 q0091 q1091 q3091 q0011");
        due(x.mark(0, 3), 7);
    }

    void p14_aNeverFitsByWhatItMeans() {
        read("v500 q0551 q2001 q4001 q5001 q3191 q3001");
        due(x.mark(0, 3), 1);
    }

    void p14_aTimeOfAge0Tells10() {
        read("t000 t900");
        due(x.mark(0, 4), 10);
        due(x.mark(1, 4), 10);
    }

    void p14_aTimeTells1To19() {
        read("t009 t901 t909");
        due(x.mark(0, 4), 19);
        due(x.mark(1, 4), 1);
        due(x.mark(2, 4), 9);
    }

    void p14_aBehindOf9CountsPlacesThatSay0() {
        read("b900 p000 b000 n000 p900 y000 t000");
        due(x.mark(0, 5), 2);
    }

    void p14_aBehindCountsWhatPlacesSayNotMean() {
        read("b300 b400 b300 p500");
        due(x.mark(0, 5), 1);
        due(x.mark(1, 5), 1);
        due(x.mark(2, 5), 1);
    }

    void p14_aBehindCountsTheFirstAndTheLastCard() {
        read("p400 b300 n400 p400");
        due(x.mark(1, 5), 2);
    }

    void p14_aBehindAloneCountsNone() {
        read("b900");
        due(x.mark(0, 5), 0);
    }

    void p15_anotherCardIsBad() {
        refused(BAD, o -> o.shelve(-1, 1));
        refused(BAD, o -> o.shelve(7, 1));
        refused(BAD, o -> o.shelve(LEAST, 1));
        refused(BAD, o -> o.shelve(MOST, 1));
        refusedIn(Bench::bare, BAD, o -> o.shelve(0, 0));
    }

    void p15_anotherShelfIsBad() {
        refused(BAD, o -> o.shelve(0, -1));
        refused(BAD, o -> o.shelve(0, 4));
        refused(BAD, o -> o.shelve(0, LEAST));
        refused(BAD, o -> o.shelve(0, MOST));
    }

    void p15_shelvesAre0To3() {
        read("n010 n020");
        due(x.shelve(0, 0), 1);
        due(x.shelve(0, 3), 0);
        due(x.shelve(0, 2), 3);
        due(x.shelve(0, 1), 2);
        due(x.card(0, 3), 1, 1);
        due(x.card(1, 3), 1, 2);
    }

    void p15_toTheSameShelf() {
        read("n030");
        due(x.shelve(0, 3), 3);
        due(x.card(0, 3), 1, 3);
    }

    void p16_anotherCardIsBad() {
        refused(BAD, o -> o.age(-1, 1));
        refused(BAD, o -> o.age(7, 1));
        refused(BAD, o -> o.age(LEAST, 1));
        refused(BAD, o -> o.age(MOST, 1));
        refusedIn(Bench::bare, BAD, o -> o.age(0, 0));
    }

    void p16_anotherAgeIsBad() {
        refused(BAD, o -> o.age(0, -1));
        refused(BAD, o -> o.age(0, 10));
        refused(BAD, o -> o.age(0, NONE));
        refused(BAD, o -> o.age(0, LEAST));
        refused(BAD, o -> o.age(0, MOST));
    }

    void p16_agesAre0To9() {
        read("n005 n006");
        due(x.age(0, 0), 5);
        due(x.age(0, 9), 0);
        due(x.age(0, 9), 9);
        due(x.card(0, 4), 1, 9);
        due(x.card(1, 4), 1, 6);
    }

    void p16_aTimeMeansByItsNewAge() {
        read("t500 n500");
        x.age(0, 4);
        due(x.card(0, 2), 1, 9);
        x.age(0, 5);
        due(x.card(0, 2), 1, 0);
        due(x.card(0, 1), 1, 5);
        x.age(1, 5);
        due(x.card(1, 2), 1, 5);
    }

    void p17_anotherQuestionIsBad() {
        refused(BAD, o -> o.truth(-1, 1));
        refused(BAD, o -> o.truth(7, 1));
        refused(BAD, o -> o.truth(LEAST, 1));
        refused(BAD, o -> o.truth(MOST, NONE));
        refusedIn(Bench::cardsAlone, BAD, o -> o.truth(0, 0));
        refusedIn(Bench::bare, BAD, o -> o.truth(0, NONE));
    }

    void p17_anotherNumberIsBad() {
        refused(BAD, o -> o.truth(0, -1));
        refused(BAD, o -> o.truth(0, 10));
        refused(BAD, o -> o.truth(0, -8));
        refused(BAD, o -> o.truth(0, -10));
        refused(BAD, o -> o.truth(0, LEAST));
        refused(BAD, o -> o.truth(0, MOST));
    }

    void p17_truthsAre0To9() {
        read("n000 q0001 q0001");
        due(x.truth(0, 0), NONE);
        due(x.truth(0, 9), 0);
        due(x.truth(0, 9), 9);
        due(x.question(0, 4), 1, 9);
        due(x.question(1, 4), 1, NONE);
    }

    void p17_noneIsUnknown() {
        read("n000 q0001");
        due(x.truth(0, NONE), NONE);
        x.truth(0, 3);
        due(x.truth(0, NONE), 3);
        due(x.question(0, 4), 1, NONE);
    }

    void p17_beyondToWhatIsTaken() {
        read("n500 q0551");
        due(x.truth(0, 4), NONE);
        due(x.truth(0, 6), 4);
        due(x.question(0, 4), 1, 6);
    }
}
