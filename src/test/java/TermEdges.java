/** Edges of 'Terms' (p00), and of promise 1. */
final class TermEdges extends Bench {
    TermEdges(Due due) {
        super(due);
    }

    void p00_constants() {
        due(LostQuestions.BAD, -1);
        due(LostQuestions.FULL, -2);
        due(LostQuestions.FINDING, -3);
        due(LostQuestions.STATE, -4);
        due(LostQuestions.SPENT, -6);
        due(LostQuestions.NONE, -9);
    }

    void p00_badIsAheadOfFindings() {
        refused(BAD, o -> o.row(6, -1));
        refused(BAD, o -> o.text(4, -1));
        refused(BAD, o -> o.copy(6, 0, 2, 0, -1));
        refused(BAD, o -> o.lay(6, -1, 0));
        refused(BAD, o -> o.mark(7, 3));
        refused(BAD, o -> o.on(3));
    }

    void p00_badIsAheadOfState() {
        refusedIn(Bench::bare, BAD, o -> o.keep(3));
        refusedIn(Bench::bare, BAD, o -> o.lots(0, 1));
        refused(BAD, o -> o.take(0, 7));
    }

    void p00_badIsAheadOfFull() {
        refusedIn(Bench::forty, BAD, o -> o.take(2, 0));
        refusedIn(Bench::forty, BAD, o -> o.lots(20, 0));
    }

    void p00_badIsNoFinding() {
        x.row(0, -1);
        x.row(6, 0);
        due(x.finding(), SIZE);
        due(x.findings(SIZE), 1);
    }

    void p00_stateIsNoFinding() {
        x.row(0, -1);
        due(x.keep(0), STATE);
        due(x.finding(), SIZE);
    }

    void p00_fullIsNoFinding() {
        refusedIn(Bench::forty, FULL, o -> o.take(0, 0));
    }

    void p00_noneIsNoFinding() {
        due(x.forged(), NONE);
        due(x.test(), NONE);
        due(x.finding(), 0);
        for (int f = 1; f <= 5; f++) {
            due(x.findings(f), 0);
        }
    }

    void p00_aMissingRowTextAndKeptLibraryIsNothing() {
        finds(NOTHING, o -> o.at(2, 0));
        finds(NOTHING, o -> o.fault(2));
        finds(NOTHING, o -> o.on(1));
    }

    void p00_anEmptyRowAndAnEmptyTextAreThere() {
        finds(BEYOND, o -> o.at(1, 0));
        finds(BEYOND, o -> o.put(3, 0, 0));
    }

    /** All MEAN 0, so that KINDS alone decide. */
    void p00_eachKindIsItselfAndThoseThatItIs() {
        read("n000 y000 p000 v000 t000 b900 q0001 q1001 q2001 q3001 q4001 q5001");
        int[] cards = {1 + 2 + 4 + 8 + 16 + 32, 2 + 8, 4 + 32, 8, 16, 32};
        for (int q = 0; q < 6; q++) {
            due(x.fits(q), cards[q]);
        }
    }

    void p00_lettersOfKinds() {
        read("n000 y000 p000 v000 t000 b000");
        for (int kind = 0; kind < 6; kind++) {
            due(x.card(kind, 0), 1, kind);
        }
    }

    private void dueMeanings(String cards, int... meanings) {
        read(cards);
        due(x.count(0), meanings.length);
        for (int c = 0; c < meanings.length; c++) {
            due(x.card(c, 2), 1, meanings[c]);
        }
    }

    void p00_aNumberAndAPlaceMeanWhatTheySay() {
        dueMeanings("n009 n539 n919 p009 p539 p919", 0, 5, 9, 0, 5, 9);
    }

    void p00_aYesMeansOneFromFiveOn() {
        dueMeanings("y009 y400 y500 y900", 0, 0, 1, 1);
    }

    void p00_aNeverMeansNought() {
        dueMeanings("v000 v400 v500 v919", 0, 0, 0, 0);
    }

    void p00_aBehindMeansOneMoreAndNoughtBehindNine() {
        dueMeanings("b000 b400 b809 b900 b909", 1, 5, 9, 0, 0);
    }

    void p00_aTimeAboveNineIsLessTen() {
        dueMeanings("t000 t009 t900 t405 t505 t901 t909", 0, 9, 9, 9, 0, 0, 8);
    }

    void p00_fromWhatAndToWhatBothFit() {
        read("n400 n500 n600 n700 q0561");
        due(x.fits(0), 2 + 4);
    }

    void p00_fromWhatMayBeToWhat() {
        read("n000 n100 n800 n900 q0001 q0991 q0111 q0091");
        due(x.fits(0), 1);
        due(x.fits(1), 8);
        due(x.fits(2), 2);
        due(x.fits(3), 15);
    }

    void p00_fitsByWhatItMeansNotSays() {
        read("t505 b900 y700 q0001 q0551 q0771 q0111");
        due(x.fits(0), 1 + 2);
        due(x.fits(1), 0);
        due(x.fits(2), 0);
        due(x.fits(3), 4);
    }

    void p00_aTakenCardIsThereNoMore() {
        read("n500 q0551 q0551");
        due(x.take(0, 0), 2);
        due(x.count(3), 0);
        due(x.take(1, 0), STATE);
    }

    void p00_aCardThatIsBroughtBackIsThere() {
        read("n500 q0551 q0551");
        x.take(0, 0);
        x.bring(0);
        due(x.count(3), 1);
        due(x.take(1, 0), 2);
    }

    void p00_aQuestionIsAnsweredByOneCardAtMost() {
        read("n500 n500 q0551");
        x.take(0, 0);
        due(x.take(0, 1), STATE);
        due(x.question(0, 5), 1, 0);
    }

    void p00_truthIsUnknownAtFirst() {
        read(ALL);
        for (int q = 0; q < 7; q++) {
            due(x.question(q, 4), 1, NONE);
        }
    }

    void p00_withoutTruthNeitherRightNorWrong() {
        read("n000 q0001");
        x.take(0, 0);
        due(x.right(), 0, 0);
    }

    void p00_truthNoughtIsTold() {
        read("n000 n100 q0011 q0011");
        x.truth(0, 0);
        x.truth(1, 0);
        x.take(0, 0);
        x.take(1, 1);
        due(x.right(), 1, 1);
    }

    void p00_withoutCardNeitherRightNorWrong() {
        read("n000 q0001");
        x.truth(0, 0);
        due(x.right(), 0, 0);
    }

    void p00_aMatchingMayHaveNoPair() {
        read("n500 q0661");
        due(x.fullest(), 1, 0);
    }

    void p00_aMatchingHasWhatMeansTheTruthIfThatIsTold() {
        read("n500 n600 q0561");
        x.truth(0, 6);
        due(x.match(1), 1);
        dueRow(1, 1);
        due(x.fullest(), 1, 1);
    }

    void p00_inAMatchingNoneIsInTwoPairs() {
        read("n500 q0551 q0551");
        due(x.match(1), 1);
        read("n500 n500 q0551");
        due(x.match(1), 1);
    }

    void p00_aMatchingHasFreeOnesAlone() {
        read("n500 n500 q0551 q0551");
        x.take(0, 0);
        due(x.match(1), 1);
        dueRow(1, NONE, 1);
    }

    void p00_chancesOfNoughtAreNoughtByOne() {
        read("n500 n600 q0551");
        due(x.odds(0, 1), 1);
        dueChances(0, 1);
    }

    void p00_chancesAreInLowestTerms() {
        read(ANY);
        due(x.odds(6, 6), 1);
        dueChances(1, 7);
    }

    void p00_setsAreBits() {
        read("n500 n600 n500 n600 n500 n600 n500 q0551");
        due(x.fits(0), 1 + 4 + 16 + 64);
    }

    void p01_nothingIsThere() {
        for (int what = 0; what <= 8; what++) {
            due(x.count(what), 0);
        }
    }

    void p01_allRowsAreMissing() {
        for (int r = 0; r < 6; r++) {
            found(x.at(r, 0), NOTHING);
        }
    }

    void p01_allTextsAreMissing() {
        for (int t = 0; t < 4; t++) {
            found(x.put(t, 0, 0), NOTHING);
        }
    }

    void p01_noLibraryIsKept() {
        for (int k = 0; k < 3; k++) {
            found(x.on(k), NOTHING);
        }
    }

    void p01_noCardsNoQuestions() {
        for (int i = 0; i < 7; i++) {
            due(x.card(i, 0), BAD);
            due(x.question(i, 0), BAD);
        }
    }

    void p01_nothingWasTold() {
        due(x.asked(), 0);
        dueChances(0, 1);
        due(x.finding(), 0);
    }

    void p01_objectsShareNothing() {
        LostQuestions other = new LostQuestions();
        long before = other.digest();
        rich(x);
        due(other.digest(), before);
        due(other.asked(), 0);
        due(other.upper(), 0);
        due(other.finding(), 0);
    }
}
