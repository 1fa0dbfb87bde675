import java.util.Random;

/** Runs of calls by lots of fixed seeds: the class and the oracle answer the same, and stand the same, at each call. */
public final class OracleTest {
    private static final int RUNS = 1500;
    private static final int CALLS = 512;
    private static final int[] EDGES = {-9, -1, 0, 1, 2, 3, 5, 6, 7, 8, 40, 41, 80, 81, 127, 128,
        Integer.MAX_VALUE, Integer.MAX_VALUE - 1, Integer.MIN_VALUE};

    private final Due due = new Due();
    private final Random random;
    private final int run;
    private final LostQuestions x = new LostQuestions();
    private final Oracle y = new Oracle();
    private int calls = 0;

    private OracleTest(int run) {
        this.run = run;
        this.random = new Random(7919L * run + 1);
    }

    public static void main(String[] args) {
        int wrong = 0;
        for (int run = 0; run < RUNS; run++) {
            OracleTest test = new OracleTest(run);
            test.go();
            if (!test.due.isAllRight()) {
                wrong++;
            }
            if (wrong == 5) {
                break;
            }
        }
        System.out.println(RUNS + " runs, " + wrong + " of them wrong");
        if (wrong != 0) {
            System.exit(1);
        }
    }

    private void go() {
        while (calls < CALLS && due.isAllRight()) {
            int lot = random.nextInt(100);
            if (calls < 60 && calls % 30 == 0 || lot == 0) {
                read(someLibrary(random.nextInt(8) == 0));
            } else if (lot < 4) {
                answers();
            } else if (lot < 6) {
                takeAndBring(someBelow(7));
            } else {
                call(random.nextInt(49));
            }
        }
    }

    private void same(String call, long got, long want) {
        calls++;
        String where = "run " + run + ", call " + calls + ": ";
        due.is(where + call, got, want);
        due.is(where + "asked() behind " + call, x.asked(), y.asked());
        due.is(where + "upper() behind " + call, x.upper(), y.upper());
        due.is(where + "lower() behind " + call, x.lower(), y.lower());
        due.is(where + "finding() behind " + call, x.finding(), y.finding());
        due.is(where + "digest() behind " + call, x.digest(), y.digest());
    }

    /** Mostly below a bound, at times at an edge or beyond it. */
    private int some(int bound) {
        int lot = random.nextInt(24);
        if (lot == 0) {
            return EDGES[random.nextInt(EDGES.length)];
        }
        return lot == 1 ? random.nextInt(bound + 3) - 1 : random.nextInt(bound);
    }

    private int someBelow(int bound) {
        return random.nextInt(bound);
    }

    private String someLibrary(boolean crowded) {
        StringBuilder signs = new StringBuilder();
        int cards = crowded ? 7 : 1 + someBelow(7);
        int questions = crowded ? 7 : someBelow(8);
        boolean alike = someBelow(3) == 0;
        for (int c = 0; c < cards; c++) {
            gap(signs, 1);
            signs.append("nypvtb".charAt(alike ? someBelow(2) * 2 : someBelow(6)));
            signs.append(someBelow(10)).append(someBelow(4)).append(someBelow(10));
        }
        for (int q = 0; q < questions; q++) {
            gap(signs, 1);
            int from = crowded ? someBelow(2) : someBelow(10);
            int to = crowded ? 9 : from + someBelow(10 - from);
            signs.append('q').append(someBelow(3) == 0 ? someBelow(6) : 0).append(from).append(to);
            signs.append(1 + someBelow(9));
        }
        gap(signs, 3);
        if (someBelow(6) == 0 && signs.length() > 0) {
            spoil(signs);
        }
        if (signs.length() > 80) {
            signs.setLength(80);
        }
        return signs.toString();
    }

    private void spoil(StringBuilder signs) {
        int place = someBelow(signs.length());
        switch (someBelow(4)) {
            case 0:
                signs.setLength(place);
                break;
            case 1:
                signs.setCharAt(place, "nypvtbq 0123459/:x".charAt(someBelow(18)));
                break;
            case 2:
                signs.deleteCharAt(place);
                break;
            default:
                signs.insert(place, "nq 05".charAt(someBelow(5)));
                break;
        }
    }

    private void gap(StringBuilder signs, int most) {
        for (int n = someBelow(most + 1); n > 0; n--) {
            signs.append(' ');
        }
    }

    /** Writing is told as one call here, so that runs have room for others. */
    private void read(String signs) {
        int t = someBelow(4);
        same("text(" + t + ", " + signs.length() + ")", x.text(t, signs.length()), y.text(t, signs.length()));
        for (int i = 0; i < signs.length(); i++) {
            x.put(t, i, signs.charAt(i));
            y.put(t, i, signs.charAt(i));
        }
        same("fault of '" + signs + "'", x.fault(t), y.fault(t));
        same("library of '" + signs + "'", x.library(t), y.library(t));
    }

    private void answers() {
        int r = someBelow(6);
        int pairs = someBelow(4);
        boolean cards = someBelow(2) == 0;
        int n = cards ? someBelow(8) : 2 * pairs;
        same("row", x.row(r, n), y.row(r, n));
        for (int i = 0; i < n; i++) {
            int v = cards ? some(60) : i % 2 == 0 ? some(4) : some(2);
            same("lay", x.lay(r, i, v), y.lay(r, i, v));
        }
        if (cards) {
            same("beside(" + r + ")", x.beside(r), y.beside(r));
        } else {
            same("left(" + r + ")", x.left(r), y.left(r));
        }
    }

    private void call(int number) {
        int a = some(7);
        int b = some(7);
        int r = some(6);
        switch (number) {
            case 0: {
                int n = some(12);
                same("row(" + r + ", " + n + ")", x.row(r, n), y.row(r, n));
                break;
            }
            case 1: {
                int i = some(10);
                int v = random.nextInt(3) == 0 ? random.nextInt() : some(60);
                same("lay(" + r + ", " + i + ", " + v + ")", x.lay(r, i, v), y.lay(r, i, v));
                break;
            }
            case 2: {
                int i = some(10);
                same("at(" + r + ", " + i + ")", x.at(r, i), y.at(r, i));
                break;
            }
            case 3:
                if (someBelow(3) == 0) {
                    same("tear(" + r + ")", x.tear(r), y.tear(r));
                }
                break;
            case 4: {
                int to = some(6);
                int n = some(5);
                same("copy(" + r + ", " + a + ", " + to + ", " + b + ", " + n + ")",
                    x.copy(r, a, to, b, n), y.copy(r, a, to, b, n));
                break;
            }
            case 5:
                same("mean(" + r + ")", x.mean(r), y.mean(r));
                break;
            case 6: {
                int t = some(4);
                int n = some(20);
                same("text(" + t + ", " + n + ")", x.text(t, n), y.text(t, n));
                break;
            }
            case 7: {
                int t = some(4);
                int i = some(20);
                int v = random.nextInt(600) - 300;
                same("put(" + t + ", " + i + ", " + v + ")", x.put(t, i, v), y.put(t, i, v));
                break;
            }
            case 8: {
                int t = some(4);
                same("fault(" + t + ")", x.fault(t), y.fault(t));
                break;
            }
            case 9:
                if (someBelow(8) == 0) {
                    int t = some(4);
                    same("library(" + t + ")", x.library(t), y.library(t));
                }
                break;
            case 10: {
                int what = some(6);
                same("card(" + a + ", " + what + ")", x.card(a, what), y.card(a, what));
                break;
            }
            case 11: {
                int what = some(6);
                same("question(" + a + ", " + what + ")", x.question(a, what), y.question(a, what));
                break;
            }
            case 12: {
                int kind = some(6);
                same("mark(" + a + ", " + kind + ")", x.mark(a, kind), y.mark(a, kind));
                break;
            }
            case 13: {
                int s = some(4);
                same("shelve(" + a + ", " + s + ")", x.shelve(a, s), y.shelve(a, s));
                break;
            }
            case 14: {
                int v = some(10);
                same("age(" + a + ", " + v + ")", x.age(a, v), y.age(a, v));
                break;
            }
            case 15: {
                int v = someBelow(2) == 0 ? -9 : some(10);
                same("truth(" + a + ", " + v + ")", x.truth(a, v), y.truth(a, v));
                break;
            }
            default:
                callReaders(number, a, b, r);
                break;
        }
    }

    private void callReaders(int number, int a, int b, int r) {
        switch (number) {
            case 16:
                same("fits(" + a + ")", x.fits(a), y.fits(a));
                break;
            case 17:
                takeSome(a);
                break;
            case 18:
                same("bring(" + a + ")", x.bring(a), y.bring(a));
                break;
            case 19: {
                // mostly late ones, so that TAKINGS come near to forty at times
                int n = someBelow(4) == 0 ? some(41) : x.count(2) - someBelow(3);
                same("undo(" + n + ")", x.undo(n), y.undo(n));
                break;
            }
            case 20:
                same("right()", x.right(), y.right());
                break;
            case 21: {
                int k = some(3);
                same("keep(" + k + ")", x.keep(k), y.keep(k));
                break;
            }
            case 22: {
                int k = some(3);
                same("on(" + k + ")", x.on(k), y.on(k));
                break;
            }
            case 23:
                same("match(" + r + ")", x.match(r), y.match(r));
                break;
            case 24:
                same("wished(" + r + ")", x.wished(r), y.wished(r));
                break;
            case 25:
                same("fullest()", x.fullest(), y.fullest());
                break;
            case 26:
                same("may(" + a + ")", x.may(a), y.may(a));
                break;
            case 27:
                same("sure(" + a + ")", x.sure(a), y.sure(a));
                break;
            case 28:
                same("test()", x.test(), y.test());
                break;
            case 29:
                same("odds(" + a + ", " + b + ")", x.odds(a, b), y.odds(a, b));
                break;
            default:
                callRest(number, r);
                break;
        }
    }

    /** Several CARDS, so that one is TAKEN at times. */
    private void takeSome(int q) {
        for (int n = 0; n < 6; n++) {
            int c = some(7);
            same("take(" + q + ", " + c + ")", x.take(q, c), y.take(q, c));
        }
    }

    private void takeAndBring(int q) {
        for (int n = 0; n < 8; n++) {
            int c = someBelow(7);
            same("take(" + q + ", " + c + ")", x.take(q, c), y.take(q, c));
            same("bring(" + q + ")", x.bring(q), y.bring(q));
        }
    }

    private void callRest(int number, int r) {
        switch (number) {
            case 30:
                same("worlds()", x.worlds(), y.worlds());
                break;
            case 31:
                same("never()", x.never(), y.never());
                break;
            case 32:
                same("parts()", x.parts(), y.parts());
                break;
            case 33:
            case 34: {
                int set = some(128);
                same("finds(" + set + ")", x.finds(set), y.finds(set));
                break;
            }
            case 35:
                same("left(" + r + ")", x.left(r), y.left(r));
                break;
            case 36:
                same("forged()", x.forged(), y.forged());
                break;
            case 37:
                same("beside(" + r + ")", x.beside(r), y.beside(r));
                break;
            case 38:
                same("habit()", x.habit(), y.habit());
                break;
            case 39:
                same("order()", x.order(), y.order());
                break;
            case 40:
                same("byAge(" + r + ")", x.byAge(r), y.byAge(r));
                break;
            case 41:
            case 42: {
                int n = some(21);
                int seed = someBelow(9) == 0 ? some(5) : 1 + random.nextInt(Integer.MAX_VALUE - 1);
                same("lots(" + n + ", " + seed + ")", x.lots(n, seed), y.lots(n, seed));
                break;
            }
            case 43: {
                int what = some(9);
                same("count(" + what + ")", x.count(what), y.count(what));
                break;
            }
            case 44: {
                int f = some(6);
                same("findings(" + f + ")", x.findings(f), y.findings(f));
                break;
            }
            default:
                break;
        }
    }
}
