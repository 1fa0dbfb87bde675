import java.util.ArrayList;
import java.util.List;

/** What tests of promises share: an object, what is due of it, scenes, and what a refused call may change. */
abstract class Bench {
    static final int BAD = -1, FULL = -2, FINDING = -3, STATE = -4, NONE = -9;
    static final int NOTHING = 1, BEYOND = 2, UNLIKE = 3, NOUGHT = 4, SIZE = 5;
    static final int MOST = Integer.MAX_VALUE, LEAST = Integer.MIN_VALUE;
    /** Seven CARDS of all KINDS (MEANING 7 1 3 0 5 0 4), seven QUESTIONS. */
    static final String ALL = "n702 y609 p314 v905 t837 b911 n420 q0393 q1017 q2052 q5004 q4091 q0489 q3005";
    /** Each of seven CARDS FITS each of seven QUESTIONS. */
    static final String ANY = "n500".repeat(7) + "q0551".repeat(7);

    interface Call {
        long of(LostQuestions o);
    }

    interface Scene {
        void lay(LostQuestions o);
    }

    LostQuestions x = new LostQuestions();
    private final Due due;
    private String label = "";
    private int step = 0;

    Bench(Due due) {
        this.due = due;
    }

    /** A new object; what is wrong behind this is told by the label. */
    final void begin(String newLabel) {
        label = newLabel;
        step = 0;
        x = new LostQuestions();
    }

    final int steps() {
        return step;
    }

    final void due(long got, long want) {
        step++;
        due.is(label + ", answer " + step, got, want);
    }

    /** An answer, and what asked() tells behind it. */
    final void due(long got, long want, long asked) {
        due(got, want);
        due(x.asked(), asked);
    }

    final void found(long got, int finding) {
        due(got, FINDING);
        due(x.finding(), finding);
    }

    final void dueChances(long upper, long lower) {
        due(x.upper(), upper);
        due(x.lower(), lower);
    }

    final void dueRow(int r, int... places) {
        for (int i = 0; i < places.length; i++) {
            due(x.at(r, i), 1, places[i]);
        }
        found(x.at(r, places.length), BEYOND);
    }

    final void dueFault(String signs, int place) {
        write(3, signs);
        due(x.fault(3), place);
    }

    final void write(int t, String signs) {
        writeIn(x, t, signs);
    }

    final void read(String signs) {
        readIn(x, signs);
    }

    final void lays(int r, int... places) {
        laysIn(x, r, places);
    }

    /** A TEXT has blanks at first, so that these are not put. */
    static void writeIn(LostQuestions o, int t, String signs) {
        o.text(t, signs.length());
        for (int i = 0; i < signs.length(); i++) {
            if (signs.charAt(i) != ' ') {
                o.put(t, i, signs.charAt(i));
            }
        }
    }

    static void readIn(LostQuestions o, String signs) {
        writeIn(o, 0, signs);
        o.library(0);
    }

    static void laysIn(LostQuestions o, int r, int... places) {
        o.row(r, places.length);
        for (int i = 0; i < places.length; i++) {
            o.lay(r, i, places[i]);
        }
    }

    /** Nothing was called. */
    static void bare(LostQuestions o) {
    }

    /**
     * Of all there can be something: ROWS 0, 1 (empty), 3 (full); TEXTS 0 (ALL), 1 (a FAULT), 3 (empty);
     * four TAKINGS, of which one was brought back (QUESTIONS 0, 5, 1 have CARDS 0, 4, 1: unknown, RIGHT,
     * WRONG); LIBRARIES kept in 0 and 2; told are -6, and 1 by 2; found was NOUGHT.
     */
    static void rich(LostQuestions o) {
        readIn(o, ALL);
        writeIn(o, 1, "n1");
        o.text(3, 0);
        laysIn(o, 0, 5, -6, 7, 8);
        o.row(1, 0);
        o.row(3, 40);
        o.odds(0, 0);
        o.take(0, 2);
        o.keep(0);
        o.truth(5, 5);
        o.take(5, 4);
        o.bring(0);
        o.shelve(6, 3);
        o.age(0, 9);
        o.keep(2);
        o.take(0, 0);
        o.truth(1, 0);
        o.take(1, 1);
        o.mean(1);
        o.at(0, 1);
    }

    /** Forty TAKINGS, all of them brought back. */
    static void forty(LostQuestions o) {
        readIn(o, "n500 n600 q0551 q0591");
        for (int n = 0; n < 40; n++) {
            o.take(0, 0);
            o.bring(0);
        }
    }

    /** CARDS, but no QUESTION. */
    static void cardsAlone(LostQuestions o) {
        readIn(o, "n500 y900");
    }

    /** In the rich scene. */
    final void refused(int answer, Call call) {
        refusedIn(Bench::rich, answer, call);
    }

    final void refusedIn(Scene scene, int answer, Call call) {
        leavesAll(scene, answer, 0, call);
    }

    /** In the rich scene. */
    final void finds(int finding, Call call) {
        findsIn(Bench::rich, finding, call);
    }

    final void findsIn(Scene scene, int finding, Call call) {
        leavesAll(scene, FINDING, finding, call);
    }

    /** An object of which this was refused stands as another one that was never called so. */
    private void leavesAll(Scene scene, int answer, int finding, Call call) {
        LostQuestions refusing = new LostQuestions();
        LostQuestions other = new LostQuestions();
        scene.lay(refusing);
        scene.lay(other);
        due(call.of(refusing), answer);
        due(refusing.finding(), finding == 0 ? other.finding() : finding);
        for (int f = 1; f <= 5; f++) {
            due(refusing.findings(f), other.findings(f) + (f == finding ? 1 : 0));
        }
        due(standingOf(refusing).equals(standingOf(other)) ? 1 : 0, 1);
    }

    /** All that can be seen of an object; behind this it is of no use. */
    private static List<Long> standingOf(LostQuestions o) {
        List<Long> seen = new ArrayList<>();
        seen.add((long) o.asked());
        seen.add(o.upper());
        seen.add(o.lower());
        addUndone(seen, o);
        for (int k = 0; k < 3; k++) {
            if (o.on(k) != FINDING) {
                addUndone(seen, o);
            }
        }
        return seen;
    }

    private static void addUndone(List<Long> seen, LostQuestions o) {
        seen.add(o.digest());
        for (int n = o.count(2) - 1; n >= 0; n--) {
            o.undo(n);
            seen.add(o.digest());
        }
    }
}
