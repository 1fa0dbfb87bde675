import java.util.function.LongSupplier;

/** Edges of promises 43 to 49: what is told. */
final class ToldEdges extends Bench {
    ToldEdges(Due due) {
        super(due);
    }

    void p43_noughtBefore() {
        due(x.asked(), 0);
    }

    void p43_whatEachOfThemTold() {
        rich(x);
        due(x.asked(), -6);
        due(x.lay(0, 0, 1), 1, 5);
        due(x.at(0, 3), 1, 8);
        due(x.mean(0), 1, 2);
        due(x.card(6, 1), 1, 4);
        due(x.question(5, 3), 1, 9);
        due(x.right(), 1, 1);
        due(x.fullest(), 1, 3);
        due(x.parts(), 1, 3);
        due(x.finds(9), 1, 0);
        due(x.forged(), 4, 3);
        lays(4, 7, 7);
        due(x.beside(4), 1, 0);
        due(x.habit(), 6, 64);
        read("n500 n500 n500 q0551");
        due(x.test(), 0, 2);
    }

    void p43_refusedCallsTellNothing() {
        refused(BAD, o -> o.lay(6, 0, 1));
        finds(BEYOND, o -> o.lay(0, 4, 1));
        finds(NOTHING, o -> o.at(2, 0));
        finds(NOUGHT, o -> o.mean(1));
        refused(BAD, o -> o.card(7, 0));
        refused(BAD, o -> o.question(7, 0));
        refused(BAD, o -> o.finds(0));
        finds(SIZE, o -> o.beside(3));
    }

    void p43_refusedPartsTellsNothing() {
        lays(0, 8);
        x.at(0, 0);
        due(x.parts(), STATE, 8);
    }

    void p43_noneTellsNothing() {
        lays(0, 8);
        x.at(0, 0);
        due(x.test(), NONE, 8);
        due(x.forged(), NONE, 8);
        read("n500 n500 q0551");
        due(x.finds(3), NONE, 8);
    }

    void p43_findsOfOneCardTellsNone() {
        rich(x);
        due(x.finds(1), 0, NONE);
    }

    /** Each of all other calls, in the rich scene. */
    void p43_otherCallsTellNothing() {
        Call[] others = {o -> o.row(5, 2), o -> o.tear(0), o -> o.copy(0, 0, 3, 0, 1), o -> o.text(2, 2),
            o -> o.put(0, 0, 'n'), o -> o.fault(1), o -> o.library(0), o -> o.mark(1, 1), o -> o.shelve(0, 1),
            o -> o.age(0, 1), o -> o.truth(0, 1), o -> o.fits(0), o -> o.take(2, 2), o -> o.bring(0),
            o -> o.undo(0), o -> o.keep(0), o -> o.on(0), o -> o.match(0), o -> o.wished(0), o -> o.may(0),
            o -> o.sure(0), o -> o.odds(0, 0), LostQuestions::worlds, LostQuestions::never, o -> o.left(1),
            LostQuestions::order, o -> o.byAge(0), o -> o.lots(3, 7), LostQuestions::asked,
            LostQuestions::upper, LostQuestions::lower, o -> o.count(0), LostQuestions::finding,
            o -> o.findings(1), LostQuestions::digest};
        due(others.length, 48 - 13);
        for (Call call : others) {
            x = new LostQuestions();
            rich(x);
            call.of(x);
            due(x.asked(), -6);
        }
    }

    void p44_noughtBefore() {
        due(x.upper(), 0);
    }

    void p44_otherCallsLeaveIt() {
        rich(x);
        x.fullest();
        x.test();
        x.library(0);
        due(x.upper(), 1);
    }

    void p44_refusedOddsLeaveIt() {
        refused(BAD, o -> o.odds(7, 0));
        rich(x);
        x.odds(0, 7);
        due(x.upper(), 1);
    }

    void p44_fromOneToNought() {
        read("n500 n600 q0551");
        x.odds(0, 0);
        due(x.upper(), 1);
        x.odds(0, 1);
        due(x.upper(), 0);
    }

    void p45_oneBefore() {
        due(x.lower(), 1);
    }

    void p45_otherCallsLeaveIt() {
        rich(x);
        x.fullest();
        x.test();
        x.library(0);
        due(x.lower(), 2);
    }

    void p45_refusedOddsLeaveIt() {
        refused(BAD, o -> o.odds(0, 7));
        rich(x);
        x.odds(7, 0);
        due(x.lower(), 2);
    }

    void p45_ofNoughtItIsOne() {
        rich(x);
        due(x.odds(0, 0), 1);
        dueChances(0, 1);
    }

    void p46_anotherWhatIsBad() {
        refused(BAD, o -> o.count(-1));
        refused(BAD, o -> o.count(9));
        refused(BAD, o -> o.count(LEAST));
        refused(BAD, o -> o.count(MOST));
    }

    private void dueCounts(int... counts) {
        for (int what = 0; what <= 8; what++) {
            due(x.count(what), counts[what]);
        }
    }

    void p46_noneOfAnything() {
        dueCounts(0, 0, 0, 0, 0, 0, 0, 0, 0);
    }

    void p46_someOfAll() {
        rich(x);
        dueCounts(7, 7, 4, 4, 4, 2, 3, 3, 2);
    }

    void p46_theMostOfAll() {
        for (int r = 0; r < 6; r++) {
            x.row(r, 0);
        }
        for (int t = 0; t < 4; t++) {
            x.text(t, 0);
        }
        read("p500 b500 p500 b500 p500 b500 p500 q0561 q0561 q0561 q0561 q0561 q0561 q0561");
        for (int k = 0; k < 3; k++) {
            x.keep(k);
        }
        dueCounts(7, 7, 0, 7, 7, 7, 6, 4, 3);
        for (int i = 0; i < 7; i++) {
            x.take(i, i);
        }
        dueCounts(7, 7, 7, 0, 0, 7, 6, 4, 3);
    }

    void p46_takingsStayWhenBroughtBack() {
        forty(x);
        dueCounts(2, 2, 40, 2, 2, 0, 0, 1, 0);
    }

    void p46_placesAndBehindsAlone() {
        read("n000 y000 p000 v000 t000 b000");
        due(x.count(5), 2);
        x.library(0);
        read("n000 y000 v000 t000");
        due(x.count(5), 0);
    }

    void p46_emptyRowsAndTextsAreThere() {
        x.row(5, 0);
        x.text(3, 0);
        due(x.count(6), 1);
        due(x.count(7), 1);
        x.tear(5);
        due(x.count(6), 0);
    }

    void p47_noughtBeforeAny() {
        due(x.finding(), 0);
        x.row(6, 0);
        x.keep(0);
        due(x.finding(), 0);
    }

    void p47_eachFinding() {
        rich(x);
        found(x.tear(2), NOTHING);
        found(x.at(0, 4), BEYOND);
        found(x.mark(0, 1), UNLIKE);
        found(x.mean(1), NOUGHT);
        found(x.row(0, -1), SIZE);
    }

    void p47_theLatestStays() {
        rich(x);
        found(x.tear(2), NOTHING);
        x.row(2, 1);
        x.row(6, 1);
        x.tear(2);
        due(x.finding(), NOTHING);
        x.library(0);
        due(x.finding(), NOTHING);
    }

    void p48_anotherFindingIsBad() {
        refused(BAD, o -> o.findings(0));
        refused(BAD, o -> o.findings(6));
        refused(BAD, o -> o.findings(-1));
        refused(BAD, o -> o.findings(LEAST));
        refused(BAD, o -> o.findings(MOST));
    }

    void p48_noneBefore() {
        for (int f = 1; f <= 5; f++) {
            due(x.findings(f), 0);
        }
    }

    void p48_howOftenEach() {
        x.row(1, 0);
        LongSupplier[] calls = {() -> x.tear(2), () -> x.at(1, 0), () -> x.left(4), () -> x.mean(1), () -> x.row(0, -1)};
        lays(4, 0, 0);
        for (int f = 1; f <= 5; f++) {
            for (int n = 0; n < f; n++) {
                due(calls[f - 1].getAsLong(), FINDING);
            }
        }
        for (int f = 1; f <= 5; f++) {
            due(x.findings(f), f);
        }
    }

    void p48_otherRefusalsDoNotCount() {
        rich(x);
        x.row(6, -1);
        x.take(0, 0);
        x.test();
        due(x.findings(NOUGHT), 1);
        due(x.findings(NOTHING) + x.findings(BEYOND) + x.findings(UNLIKE) + x.findings(SIZE), 0);
    }

    void p48_aNewLibraryForgetsNone() {
        rich(x);
        x.library(0);
        due(x.findings(NOUGHT), 1);
    }

    private static long digestOf(int... values) {
        long h = 17;
        for (int v : values) {
            h = 31 * h + v;
        }
        return h;
    }

    void p49_ofANewObject() {
        due(x.digest(), digestOf(0, 0, 0, 0, 0, 0, 0, 0, 0, -1, -1, -1, -1, -1, -1, -1, -1, -1, -1, -1, -1, -1));
    }

    void p49_anEmptyRowIsNotMissing() {
        x.row(5, 0);
        due(x.digest(), digestOf(0, 0, 0, 0, 0, 0, 1, 0, 0, -1, -1, -1, -1, -1, -1, -1, -1, 0, -1, -1, -1, -1));
    }

    void p49_anEmptyTextIsNotMissing() {
        x.text(3, 0);
        due(x.digest(), digestOf(0, 0, 0, 0, 0, 0, 0, 1, 0, -1, -1, -1, -1, -1, -1, -1, -1, -1, -1, -1, -1, 0));
    }

    void p49_placesOfRows() {
        lays(0, MOST, LEAST);
        due(x.digest(), digestOf(0, 0, 0, 0, 0, 0, 1, 0, 0, -1, -1, -1, 2, MOST, LEAST, -1, -1, -1, -1, -1,
            -1, -1, -1, -1));
    }

    void p49_bytesOfTextsHaveTheirSigns() {
        x.text(0, 3);
        x.put(0, 0, 200);
        x.put(0, 1, 127);
        due(x.digest(), digestOf(0, 0, 0, 0, 0, 0, 0, 1, 0, -1, -1, -1, -1, -1, -1, -1, -1, -1, 3, -56, 127, 32,
            -1, -1, -1));
    }

    void p49_aKeptLibraryWithoutTakingsIsNotMissing() {
        read("n512");
        x.text(0, 0);
        x.keep(1);
        due(x.digest(), digestOf(1, 0, 0, 1, 0, 0, 0, 1, 1, 0, 5, 5, 1, 2, NONE, -1, 0, -1,
            -1, -1, -1, -1, -1, -1, 0, -1, -1, -1));
    }

    void p49_takingsWithThoseBroughtBack() {
        read("n600 n512 q0567 q0661");
        x.text(0, 0);
        x.take(0, 1);
        x.take(1, 0);
        x.bring(0);
        x.truth(1, 0);
        due(x.digest(), digestOf(2, 2, 2, 1, 1, 0, 0, 1, 0, 0, 6, 6, 0, 0, 1, 0, 5, 5, 1, 2, NONE,
            0, 5, 6, 7, NONE, NONE, 0, 6, 6, 1, 0, 0, 1, 10, -1, -1, -1,
            -1, -1, -1, -1, -1, -1, 0, -1, -1, -1));
    }

    void p49_takingsOfKeptLibraries() {
        read("n512 q0567");
        x.text(0, 0);
        x.keep(2);
        x.take(0, 0);
        x.bring(0);
        x.take(0, 0);
        x.keep(0);
        x.undo(0);
        due(x.digest(), digestOf(1, 1, 0, 1, 1, 0, 0, 1, 2, 0, 5, 5, 1, 2, NONE, 0, 5, 6, 7, NONE, NONE,
            2, -1, 0, -1, -1, -1, -1, -1, -1, 0, -1, -1, -1));
    }

    void p49_fortyPlacesAndEightySignsWrapAround() {
        int[] values = new int[9 + 3 + 6 + 40 + 4 + 80];
        values[6] = 1;
        values[7] = 1;
        int next = 9;
        for (int n = 0; n < 3 + 5; n++) {
            values[next++] = -1;
        }
        values[next++] = 40;
        x.row(5, 40);
        x.text(3, 80);
        for (int i = 0; i < 40; i++) {
            x.lay(5, i, MOST - i);
            values[next++] = MOST - i;
        }
        for (int t = 0; t < 3; t++) {
            values[next++] = -1;
        }
        values[next++] = 80;
        for (int i = 0; i < 80; i++) {
            x.put(3, i, i - 40);
            values[next++] = i - 40;
        }
        due(next, values.length);
        due(x.digest(), digestOf(values));
    }

    void p49_whatIsToldAndFoundIsNotInIt() {
        rich(x);
        long before = x.digest();
        x.at(0, 0);
        x.odds(6, 3);
        x.at(0, 9);
        due(x.digest(), before);
    }

    void p49_itChangesNothing() {
        rich(x);
        due(x.digest(), x.digest());
        due(x.asked(), -6);
        dueChances(1, 2);
        due(x.finding(), NOUGHT);
    }
}
