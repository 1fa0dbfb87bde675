/** Edges of promises 18 to 24: READERS, and kept LIBRARIES. */
final class ReaderEdges extends Bench {
    ReaderEdges(Due due) {
        super(due);
    }

    void p18_anotherQuestionIsBad() {
        refused(BAD, o -> o.fits(-1));
        refused(BAD, o -> o.fits(7));
        refused(BAD, o -> o.fits(LEAST));
        refused(BAD, o -> o.fits(MOST));
        refusedIn(Bench::cardsAlone, BAD, o -> o.fits(0));
        refusedIn(Bench::bare, BAD, o -> o.fits(0));
    }

    void p18_noneFits() {
        read("n500 q0661");
        due(x.fits(0), 0);
    }

    void p18_allSevenFit() {
        read(ANY);
        due(x.fits(0), 127);
        due(x.fits(6), 127);
    }

    void p18_takenOrNot() {
        read("n500 n500 q0551 q0551");
        x.take(0, 0);
        due(x.fits(0), 3);
        due(x.fits(1), 3);
    }

    void p18_whateverTheTruth() {
        read("n500 n600 q0561");
        x.truth(0, 6);
        due(x.fits(0), 3);
        x.truth(0, 9);
        due(x.fits(0), 3);
    }

    void p19_anotherQuestionIsBad() {
        refused(BAD, o -> o.take(-1, 6));
        refused(BAD, o -> o.take(7, 6));
        refused(BAD, o -> o.take(LEAST, 6));
        refused(BAD, o -> o.take(MOST, 6));
        refusedIn(Bench::cardsAlone, BAD, o -> o.take(0, 0));
    }

    void p19_anotherCardIsBad() {
        refused(BAD, o -> o.take(2, -1));
        refused(BAD, o -> o.take(2, 7));
        refused(BAD, o -> o.take(2, LEAST));
        refused(BAD, o -> o.take(2, MOST));
    }

    void p19_rightWrongNobodyKnows() {
        read("n500 n500 n500 q0551 q0551 q0551");
        x.truth(0, 5);
        x.truth(1, 6);
        due(x.take(0, 0), 1);
        due(x.take(1, 1), 0);
        due(x.take(2, 2), 2);
    }

    void p19_truthNoughtIsKnown() {
        read("n000 n100 q0011 q0011");
        x.truth(0, 0);
        x.truth(1, 0);
        due(x.take(0, 0), 1);
        due(x.take(1, 1), 0);
    }

    void p19_whatDoesNotFitIsState() {
        refused(STATE, o -> o.take(3, 6));
        refused(STATE, o -> o.take(2, 6));
        refused(STATE, o -> o.take(4, 3));
    }

    void p19_anAnsweredQuestionIsState() {
        refused(STATE, o -> o.take(0, 6));
        refused(STATE, o -> o.take(0, 0));
    }

    void p19_aTakenCardIsState() {
        refused(STATE, o -> o.take(4, 4));
    }

    void p19_theFortiethIsTakenAndNoMore() {
        forty(x);
        due(x.count(2), 40);
        x.undo(39);
        due(x.count(2), 39);
        due(x.take(0, 0), 2);
        due(x.count(2), 40);
        due(x.take(1, 1), FULL);
    }

    void p19_behindFortyItIsFull() {
        refusedIn(Bench::forty, FULL, o -> o.take(0, 0));
        refusedIn(Bench::forty, FULL, o -> o.take(1, 1));
    }

    void p19_bringingBackMakesNoRoom() {
        forty(x);
        due(x.count(3), 2);
        due(x.take(0, 0), FULL);
    }

    void p19_stateIsAheadOfFull() {
        refusedIn(Bench::forty, STATE, o -> o.take(0, 1));
        refusedIn(o -> {
            forty(o);
            o.undo(39);
            o.take(1, 0);
        }, STATE, o -> o.take(1, 1));
        refusedIn(o -> {
            forty(o);
            o.undo(39);
            o.take(1, 0);
        }, STATE, o -> o.take(0, 0));
    }

    void p19_undoneOnesMakeRoom() {
        forty(x);
        due(x.undo(0), 40);
        due(x.take(0, 0), 2);
        due(x.count(2), 1);
    }

    void p20_anotherQuestionIsBad() {
        refused(BAD, o -> o.bring(-1));
        refused(BAD, o -> o.bring(7));
        refused(BAD, o -> o.bring(LEAST));
        refused(BAD, o -> o.bring(MOST));
        refusedIn(Bench::bare, BAD, o -> o.bring(0));
    }

    void p20_aQuestionWithoutCardIsState() {
        refused(STATE, o -> o.bring(2));
        refused(STATE, o -> o.bring(6));
    }

    void p20_whatWasBroughtBackCannotBeAgain() {
        refusedIn(o -> {
            rich(o);
            o.bring(0);
        }, STATE, o -> o.bring(0));
    }

    void p20_card0IsBroughtBack() {
        read("n500 n500 q0551 q0551");
        x.take(1, 0);
        due(x.bring(1), 0);
        due(x.count(3), 2);
    }

    void p20_takingsStayTold() {
        read("n500 q0551");
        x.take(0, 0);
        x.bring(0);
        due(x.count(2), 1);
        due(x.count(4), 1);
    }

    void p20_otherAnswersStay() {
        read("n500 n500 q0551 q0551");
        x.take(0, 1);
        x.take(1, 0);
        due(x.bring(0), 1);
        due(x.question(1, 5), 1, 0);
        due(x.question(0, 5), 1, NONE);
    }

    void p21_belowNoneIsBad() {
        refused(BAD, o -> o.undo(-1));
        refused(BAD, o -> o.undo(LEAST));
    }

    void p21_aboveAllTakingsIsBad() {
        refused(BAD, o -> o.undo(5));
        refused(BAD, o -> o.undo(MOST));
        refusedIn(Bench::bare, BAD, o -> o.undo(1));
        refusedIn(Bench::forty, BAD, o -> o.undo(41));
    }

    void p21_behindAllTakingsNoneIsUndone() {
        due(x.undo(0), 0);
        forty(x);
        due(x.undo(40), 0);
        due(x.count(2), 40);
        rich(x);
        due(x.undo(4), 0);
        due(x.count(2), 4);
        due(x.count(3), 4);
    }

    void p21_theLastOneAlone() {
        rich(x);
        due(x.undo(3), 1);
        due(x.question(1, 5), 1, NONE);
        due(x.question(0, 5), 1, 0);
        due(x.count(2), 3);
    }

    void p21_allOfThem() {
        forty(x);
        due(x.undo(0), 40);
        due(x.count(2), 0);
        due(x.count(3), 2);
        rich(x);
        due(x.undo(0), 4);
        due(x.count(3), 7);
    }

    void p21_broughtBackOnesCountToo() {
        read("n500 q0551");
        x.take(0, 0);
        x.bring(0);
        due(x.undo(0), 1);
        due(x.count(2), 0);
    }

    void p21_whatWasBroughtBackLaterAnswersAgain() {
        read("n500 n600 q0551 q0661");
        x.take(0, 0);
        x.take(1, 1);
        x.bring(0);
        due(x.undo(1), 1);
        due(x.question(0, 5), 1, 0);
        due(x.question(1, 5), 1, NONE);
    }

    void p21_whatWasBroughtBackAheadStaysSo() {
        read("n500 n600 q0551 q0661");
        x.take(0, 0);
        x.bring(0);
        x.take(1, 1);
        due(x.undo(1), 1);
        due(x.question(0, 5), 1, NONE);
        due(x.count(3), 2);
    }

    void p21_truthsShelvesAgesStay() {
        read("n500 q0551");
        x.take(0, 0);
        x.truth(0, 4);
        x.shelve(0, 3);
        x.age(0, 9);
        due(x.undo(0), 1);
        due(x.question(0, 4), 1, 4);
        due(x.card(0, 3), 1, 3);
        due(x.card(0, 4), 1, 9);
    }

    void p21_keptLibrariesAndRowsStay() {
        rich(x);
        due(x.undo(0), 4, -6);
        due(x.count(8), 2);
        due(x.on(2), 2);
        due(x.question(5, 5), 1, 4);
        dueRow(0, 5, -6, 7, 8);
    }

    void p22_noneWithoutALibrary() {
        due(x.right(), 0, 0);
    }

    void p22_allSevenRight() {
        read(ANY);
        for (int i = 0; i < 7; i++) {
            x.truth(i, 5);
            due(x.take(i, 6 - i), 1);
        }
        due(x.right(), 7, 0);
    }

    void p22_allSevenWrong() {
        read(ANY);
        for (int i = 0; i < 7; i++) {
            x.truth(i, i == 5 ? 9 : i);
            due(x.take(i, i), 0);
        }
        due(x.right(), 0, 7);
    }

    void p22_someUnknown() {
        rich(x);
        due(x.right(), 1, 1);
    }

    void p22_broughtBackCountsNoMore() {
        rich(x);
        x.bring(5);
        due(x.right(), 0, 1);
        x.bring(1);
        due(x.right(), 0, 0);
    }

    void p22_byTheTruthAndTheAgeNow() {
        read("t500 q0091");
        x.take(0, 0);
        x.truth(0, 0);
        due(x.right(), 0, 1);
        x.age(0, 5);
        due(x.right(), 1, 0);
        x.truth(0, NONE);
        due(x.right(), 0, 0);
    }

    void p23_anotherPlaceIsBad() {
        refused(BAD, o -> o.keep(-1));
        refused(BAD, o -> o.keep(3));
        refused(BAD, o -> o.keep(LEAST));
        refused(BAD, o -> o.keep(MOST));
    }

    void p23_withoutCardsItIsState() {
        refusedIn(Bench::bare, STATE, o -> o.keep(0));
        refusedIn(Bench::bare, STATE, o -> o.keep(2));
    }

    void p23_badIsAheadOfState() {
        refusedIn(Bench::bare, BAD, o -> o.keep(3));
        refusedIn(Bench::bare, BAD, o -> o.keep(-1));
    }

    void p23_cardsAloneCanBeKept() {
        cardsAlone(x);
        due(x.keep(0), 0);
        due(x.count(8), 1);
    }

    void p23_placesAre0To2() {
        cardsAlone(x);
        for (int k = 0; k <= 2; k++) {
            due(x.keep(k), 0);
            due(x.count(8), k + 1);
        }
    }

    void p23_noneAndFortyTakings() {
        forty(x);
        due(x.keep(0), 40);
        x.undo(0);
        due(x.keep(1), 0);
        due(x.on(0), 40);
    }

    void p23_aPlaceIsKeptAnew() {
        rich(x);
        due(x.keep(0), 4);
        due(x.count(8), 2);
        x.undo(0);
        due(x.on(0), 4);
        due(x.question(1, 5), 1, 1);
    }

    void p24_anotherPlaceIsBad() {
        refused(BAD, o -> o.on(-1));
        refused(BAD, o -> o.on(3));
        refused(BAD, o -> o.on(LEAST));
        refused(BAD, o -> o.on(MOST));
    }

    void p24_aMissingOneIsNothing() {
        finds(NOTHING, o -> o.on(1));
        findsIn(Bench::bare, NOTHING, o -> o.on(0));
        findsIn(Bench::cardsAlone, NOTHING, o -> o.on(2));
    }

    void p24_placesAre0To2() {
        read("n500 n500 q0551 q0551");
        x.keep(0);
        x.take(0, 0);
        x.keep(1);
        x.take(1, 1);
        x.keep(2);
        due(x.on(0), 0);
        due(x.on(1), 1);
        due(x.on(2), 2);
    }

    void p24_whatAnswersWhat() {
        rich(x);
        due(x.on(0), 1);
        due(x.question(0, 5), 1, 2);
        due(x.question(5, 5), 1, NONE);
        due(x.question(1, 5), 1, NONE);
        due(x.count(3), 6);
    }

    void p24_takingsAndWhatWasAheadOfThem() {
        rich(x);
        x.undo(0);
        x.take(5, 6);
        x.take(1, 1);
        due(x.on(2), 2);
        due(x.question(0, 5), 1, NONE);
        due(x.undo(1), 1);
        due(x.question(0, 5), 1, 2);
        due(x.question(5, 5), 1, NONE);
    }

    void p24_truths() {
        rich(x);
        due(x.on(0), 1);
        due(x.question(5, 4), 1, NONE);
        due(x.on(2), 2);
        due(x.question(5, 4), 1, 5);
        due(x.question(1, 4), 1, NONE);
    }

    void p24_shelves() {
        rich(x);
        due(x.on(0), 1);
        due(x.card(6, 3), 1, 2);
        due(x.on(2), 2);
        due(x.card(6, 3), 1, 3);
    }

    void p24_ages() {
        rich(x);
        due(x.on(0), 1);
        due(x.card(0, 4), 1, 2);
        due(x.on(2), 2);
        due(x.card(0, 4), 1, 9);
    }

    void p24_whatIsKeptStaysAsItWas() {
        rich(x);
        x.on(0);
        long then = x.digest();
        x.take(1, 1);
        x.bring(0);
        x.truth(6, 9);
        x.shelve(0, 3);
        x.age(4, 0);
        due(x.on(0), 1);
        due(x.digest(), then);
        x.undo(0);
        x.take(1, 1);
        due(x.on(0), 1);
        due(x.digest(), then);
    }

    void p24_rowsTextsAndWhatWasToldStay() {
        rich(x);
        due(x.on(0), 1, -6);
        dueChances(1, 2);
        due(x.count(6), 3);
        due(x.count(7), 3);
        due(x.count(8), 2);
        due(x.finding(), NOUGHT);
    }

    void p24_whatWasAheadOfTheLastOfForty() {
        forty(x);
        x.keep(0);
        long then = x.digest();
        x.undo(0);
        x.take(0, 0);
        for (int n = 1; n < 40; n++) {
            x.take(1, 1);
            x.bring(1);
        }
        due(x.on(0), 40);
        due(x.digest(), then);
        due(x.undo(39), 1);
        due(x.question(0, 5), 1, NONE);
    }

    void p24_fortyTakingsAreGoneOnFrom() {
        forty(x);
        x.keep(0);
        x.undo(3);
        due(x.on(0), 40);
        due(x.take(0, 0), FULL);
        due(x.undo(39), 1);
        due(x.take(1, 0), 2);
    }
}
