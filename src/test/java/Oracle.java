import java.util.ArrayList;
import java.util.Arrays;
import java.util.Collections;
import java.util.HashMap;
import java.util.List;
import java.util.Map;
import java.util.TreeMap;

/** The document once more, by listing all there is instead of counting it: slow, plain, and apart from the class. */
final class Oracle {
    private static final int BAD = -1, FULL = -2, FINDING = -3, STATE = -4, NONE = -9;
    private static final String LETTERS = "nypvtb";
    private static final int[] PARENTS = {-1, 0, 0, 1, 0, 2};

    private static final class Card {
        int kind;
        int says;
        int shelf;
        int age;
    }

    private static final class Question {
        int kind;
        int from;
        int to;
        int wished;
        int truth = NONE;
    }

    /** What the LIBRARY was: lists of its own. */
    private static final class Kept {
        List<int[]> takings = new ArrayList<>();
        List<Map<Integer, Integer>> ahead = new ArrayList<>();
        Map<Integer, Integer> answers = new HashMap<>();
        List<Integer> truths = new ArrayList<>();
        List<Integer> shelves = new ArrayList<>();
        List<Integer> ages = new ArrayList<>();
    }

    private final int[][] rows = new int[6][];
    private final byte[][] texts = new byte[4][];
    private final Kept[] kept = new Kept[3];
    private List<Card> cards = new ArrayList<>();
    private List<Question> questions = new ArrayList<>();
    private Map<Integer, Integer> answers = new HashMap<>();
    private List<int[]> takings = new ArrayList<>();
    private List<Map<Integer, Integer>> ahead = new ArrayList<>();
    private final int[] often = new int[6];
    private int latest = 0;
    private int told = 0;
    private long up = 0;
    private long low = 1;

    private int found(int f) {
        latest = f;
        often[f]++;
        return FINDING;
    }

    private static boolean in(int v, int least, int most) {
        return least <= v && v <= most;
    }

    int row(int r, int n) {
        if (!in(r, 0, 5) || n > 40) return BAD;
        if (n < 0) return found(5);
        rows[r] = new int[n];
        return n;
    }

    int lay(int r, int i, int v) {
        if (!in(r, 0, 5)) return BAD;
        if (rows[r] == null) return found(1);
        if (!in(i, 0, rows[r].length - 1)) return found(2);
        told = rows[r][i];
        rows[r][i] = v;
        return 1;
    }

    int at(int r, int i) {
        if (!in(r, 0, 5)) return BAD;
        if (rows[r] == null) return found(1);
        if (!in(i, 0, rows[r].length - 1)) return found(2);
        told = rows[r][i];
        return 1;
    }

    int tear(int r) {
        if (!in(r, 0, 5)) return BAD;
        if (rows[r] == null) return found(1);
        rows[r] = null;
        return 1;
    }

    int copy(int r, int i, int to, int j, int n) {
        if (!in(r, 0, 5) || !in(to, 0, 5)) return BAD;
        if (n < 0) return found(5);
        if (rows[r] == null || rows[to] == null) return found(1);
        if (i < 0 || j < 0 || (long) i + n > rows[r].length || (long) j + n > rows[to].length) return found(2);
        int[] before = rows[r].clone();
        for (int k = 0; k < n; k++) {
            rows[to][j + k] = before[i + k];
        }
        return 1;
    }

    int mean(int r) {
        if (!in(r, 0, 5)) return BAD;
        if (rows[r] == null) return found(1);
        if (rows[r].length == 0) return found(4);
        long sum = 0;
        for (int v : rows[r]) {
            sum += v;
        }
        told = (int) (sum / rows[r].length);
        return 1;
    }

    int text(int t, int n) {
        if (!in(t, 0, 3) || n > 80) return BAD;
        if (n < 0) return found(5);
        texts[t] = new byte[n];
        Arrays.fill(texts[t], (byte) 32);
        return n;
    }

    int put(int t, int i, int v) {
        if (!in(t, 0, 3)) return BAD;
        if (texts[t] == null) return found(1);
        if (!in(i, 0, texts[t].length - 1)) return found(2);
        int was = texts[t][i] + 1000;
        texts[t][i] = (byte) v;
        return was;
    }

    /** A FAULT, found by the least place up to which no way to go on fits any more. */
    private int faultOf(byte[] signs, List<Card> intoCards, List<Question> intoQuestions) {
        String state = "gap";
        char letter = 0;
        List<Integer> figures = new ArrayList<>();
        for (int i = 0; i < signs.length; i++) {
            int v = signs[i];
            if (state.equals("gap")) {
                if (v == 32) continue;
                if (v == 'q') {
                    if (intoCards.isEmpty() || intoQuestions.size() == 7) return i;
                } else {
                    if (v < 0 || LETTERS.indexOf((char) v) < 0) return i;
                    if (!intoQuestions.isEmpty() || intoCards.size() == 7) return i;
                }
                letter = (char) v;
                figures.clear();
                state = "item";
                continue;
            }
            int least = 0;
            int most = 9;
            if (letter == 'q') {
                if (figures.size() == 0) most = 5;
                if (figures.size() == 2) least = figures.get(1);
                if (figures.size() == 3) least = 1;
            } else if (figures.size() == 1) {
                most = 3;
            }
            if (!in(v - 48, least, most)) return i;
            figures.add(v - 48);
            if (letter == 'q' && figures.size() == 4) {
                Question question = new Question();
                question.kind = figures.get(0);
                question.from = figures.get(1);
                question.to = figures.get(2);
                question.wished = figures.get(3);
                intoQuestions.add(question);
                state = "gap";
            }
            if (letter != 'q' && figures.size() == 3) {
                Card card = new Card();
                card.kind = LETTERS.indexOf(letter);
                card.says = figures.get(0);
                card.shelf = figures.get(1);
                card.age = figures.get(2);
                intoCards.add(card);
                state = "gap";
            }
        }
        return state.equals("item") || intoCards.isEmpty() ? signs.length : NONE;
    }

    int fault(int t) {
        if (!in(t, 0, 3)) return BAD;
        if (texts[t] == null) return found(1);
        return faultOf(texts[t], new ArrayList<>(), new ArrayList<>());
    }

    int library(int t) {
        if (!in(t, 0, 3)) return BAD;
        if (texts[t] == null) return found(1);
        List<Card> newCards = new ArrayList<>();
        List<Question> newQuestions = new ArrayList<>();
        if (faultOf(texts[t], newCards, newQuestions) != NONE) return STATE;
        cards = newCards;
        questions = newQuestions;
        answers = new HashMap<>();
        takings = new ArrayList<>();
        ahead = new ArrayList<>();
        Arrays.fill(kept, null);
        return cards.size();
    }

    private boolean noCard(int c) {
        return !in(c, 0, cards.size() - 1);
    }

    private boolean noQuestion(int q) {
        return !in(q, 0, questions.size() - 1);
    }

    private boolean is(int c, int kind) {
        for (int k = cards.get(c).kind; k >= 0; k = PARENTS[k]) {
            if (k == kind) return true;
        }
        return false;
    }

    private int means(int c) {
        Card card = cards.get(c);
        int v = card.says;
        if (is(c, 1)) v = v >= 5 ? 1 : 0;
        if (is(c, 3)) v = 0;
        if (is(c, 5)) v = v == 9 ? 0 : v + 1;
        if (is(c, 4)) {
            v += card.age;
            if (v > 9) v -= 10;
        }
        return v;
    }

    private boolean fitting(int c, int kind, int from, int to) {
        return is(c, kind) && means(c) >= from && means(c) <= to;
    }

    private boolean fitting(int c, int q) {
        Question question = questions.get(q);
        return fitting(c, question.kind, question.from, question.to);
    }

    private int answerOf(int q) {
        return answers.getOrDefault(q, NONE);
    }

    private int answeredBy(int c) {
        for (int q = 0; q < questions.size(); q++) {
            if (answerOf(q) == c) return q;
        }
        return NONE;
    }

    private int ofCard(int c, int what) {
        Card card = cards.get(c);
        return new int[] {card.kind, card.says, means(c), card.shelf, card.age, answeredBy(c)}[what];
    }

    private int ofQuestion(int q, int what) {
        Question question = questions.get(q);
        return new int[] {question.kind, question.from, question.to, question.wished, question.truth, answerOf(q)}[what];
    }

    int card(int c, int what) {
        if (noCard(c) || !in(what, 0, 5)) return BAD;
        told = ofCard(c, what);
        return 1;
    }

    int question(int q, int what) {
        if (noQuestion(q) || !in(what, 0, 5)) return BAD;
        told = ofQuestion(q, what);
        return 1;
    }

    int mark(int c, int kind) {
        if (noCard(c) || !in(kind, 1, 5)) return BAD;
        if (!is(c, kind)) return found(3);
        if (kind == 4) return means(c) - cards.get(c).says + 10;
        int n = 0;
        if (kind == 3) {
            for (int q = 0; q < questions.size(); q++) {
                if (fitting(c, q)) n++;
            }
            return n;
        }
        for (int d = 0; d < cards.size(); d++) {
            boolean so = false;
            if (kind == 1) so = is(d, 1) && means(d) == means(c);
            if (kind == 2) so = d != c && cards.get(d).shelf == cards.get(c).shelf;
            if (kind == 5) so = is(d, 2) && cards.get(d).says == means(c);
            if (so) n++;
        }
        return n;
    }

    int shelve(int c, int s) {
        if (noCard(c) || !in(s, 0, 3)) return BAD;
        int was = cards.get(c).shelf;
        cards.get(c).shelf = s;
        return was;
    }

    int age(int c, int v) {
        if (noCard(c) || !in(v, 0, 9)) return BAD;
        int was = cards.get(c).age;
        cards.get(c).age = v;
        return was;
    }

    int truth(int q, int v) {
        if (noQuestion(q) || !in(v, 0, 9) && v != NONE) return BAD;
        int was = questions.get(q).truth;
        questions.get(q).truth = v;
        return was;
    }

    int fits(int q) {
        if (noQuestion(q)) return BAD;
        int bits = 0;
        for (int c = 0; c < cards.size(); c++) {
            if (fitting(c, q)) bits += 1 << c;
        }
        return bits;
    }

    private void addTaking(int q, int c) {
        ahead.add(new HashMap<>(answers));
        takings.add(new int[] {q, c});
        answers.put(q, c);
    }

    int take(int q, int c) {
        if (noQuestion(q) || noCard(c)) return BAD;
        if (!fitting(c, q) || answerOf(q) != NONE || answeredBy(c) != NONE) return STATE;
        if (takings.size() == 40) return FULL;
        addTaking(q, c);
        int truth = questions.get(q).truth;
        return truth == NONE ? 2 : truth == means(c) ? 1 : 0;
    }

    int bring(int q) {
        if (noQuestion(q)) return BAD;
        if (answerOf(q) == NONE) return STATE;
        return answers.remove(q);
    }

    int undo(int n) {
        if (!in(n, 0, takings.size())) return BAD;
        int undone = takings.size() - n;
        if (undone > 0) answers = new HashMap<>(ahead.get(n));
        takings = new ArrayList<>(takings.subList(0, n));
        ahead = new ArrayList<>(ahead.subList(0, n));
        return undone;
    }

    int right() {
        int right = 0;
        int wrong = 0;
        for (int q : answers.keySet()) {
            int truth = questions.get(q).truth;
            if (truth == NONE) continue;
            if (means(answers.get(q)) == truth) right++;
            else wrong++;
        }
        told = wrong;
        return right;
    }

    int keep(int k) {
        if (!in(k, 0, 2)) return BAD;
        if (cards.isEmpty()) return STATE;
        Kept place = new Kept();
        place.takings.addAll(takings);
        place.ahead.addAll(ahead);
        place.answers.putAll(answers);
        for (Question question : questions) {
            place.truths.add(question.truth);
        }
        for (Card card : cards) {
            place.shelves.add(card.shelf);
            place.ages.add(card.age);
        }
        kept[k] = place;
        return takings.size();
    }

    int on(int k) {
        if (!in(k, 0, 2)) return BAD;
        if (kept[k] == null) return found(1);
        takings = new ArrayList<>(kept[k].takings);
        ahead = new ArrayList<>(kept[k].ahead);
        answers = new HashMap<>(kept[k].answers);
        for (int q = 0; q < questions.size(); q++) {
            questions.get(q).truth = kept[k].truths.get(q);
        }
        for (int c = 0; c < cards.size(); c++) {
            cards.get(c).shelf = kept[k].shelves.get(c);
            cards.get(c).age = kept[k].ages.get(c);
        }
        return takings.size();
    }

    /** All MATCHINGS, in the order by QUESTIONS, NONE behind all CARDS. */
    private List<int[]> matchings() {
        List<int[]> all = new ArrayList<>();
        extend(new int[questions.size()], 0, all);
        return all;
    }

    private void extend(int[] begun, int q, List<int[]> all) {
        if (q == begun.length) {
            all.add(begun.clone());
            return;
        }
        for (int c = 0; c < cards.size() && answerOf(q) == NONE; c++) {
            int truth = questions.get(q).truth;
            boolean may = fitting(c, q) && (truth == NONE || truth == means(c)) && answeredBy(c) == NONE;
            for (int p = 0; p < q; p++) {
                may &= begun[p] != c;
            }
            if (may) {
                begun[q] = c;
                extend(begun, q + 1, all);
            }
        }
        begun[q] = NONE;
        extend(begun, q + 1, all);
    }

    private static int pairsOf(int[] matching) {
        int pairs = 0;
        for (int c : matching) {
            if (c != NONE) pairs++;
        }
        return pairs;
    }

    private List<int[]> allFullest() {
        List<int[]> all = matchings();
        int most = 0;
        for (int[] matching : all) {
            most = Math.max(most, pairsOf(matching));
        }
        List<int[]> fullest = new ArrayList<>();
        for (int[] matching : all) {
            if (pairsOf(matching) == most) fullest.add(matching);
        }
        return fullest;
    }

    private static int having(List<int[]> some, int q, int c) {
        int n = 0;
        for (int[] matching : some) {
            if (matching[q] == c) n++;
        }
        return n;
    }

    int match(int r) {
        if (!in(r, 0, 5)) return BAD;
        rows[r] = allFullest().get(0);
        return pairsOf(rows[r]);
    }

    int wished(int r) {
        if (!in(r, 0, 5)) return BAD;
        int most = -1;
        for (int[] matching : matchings()) {
            int sum = 0;
            for (int q = 0; q < matching.length; q++) {
                if (matching[q] != NONE) sum += questions.get(q).wished;
            }
            if (sum > most) {
                most = sum;
                rows[r] = matching;
            }
        }
        return most;
    }

    int fullest() {
        List<int[]> some = allFullest();
        told = 0;
        for (int q = 0; q < questions.size(); q++) {
            for (int c = 0; c < cards.size(); c++) {
                if (having(some, q, c) == some.size()) told++;
            }
        }
        return some.size();
    }

    int may(int c) {
        if (noCard(c)) return BAD;
        List<int[]> some = allFullest();
        int bits = 0;
        for (int q = 0; q < questions.size(); q++) {
            if (having(some, q, c) > 0) bits += 1 << q;
        }
        return bits;
    }

    int sure(int q) {
        if (noQuestion(q)) return BAD;
        List<int[]> some = allFullest();
        int first = some.get(0)[q];
        return having(some, q, first) == some.size() ? first : NONE;
    }

    int test() {
        List<int[]> some = allFullest();
        TreeMap<Integer, Integer> pairOfWorst = new TreeMap<>();
        for (int q = 0; q < questions.size(); q++) {
            for (int c = 0; c < cards.size(); c++) {
                int with = having(some, q, c);
                if (with > 0 && with < some.size()) {
                    pairOfWorst.putIfAbsent(Math.max(with, some.size() - with), 10 * q + c);
                }
            }
        }
        if (pairOfWorst.isEmpty()) return NONE;
        told = pairOfWorst.firstKey();
        return pairOfWorst.get(told);
    }

    int odds(int q, int c) {
        if (noQuestion(q) || noCard(c)) return BAD;
        List<int[]> some = allFullest();
        up = having(some, q, c);
        low = some.size();
        for (int d = some.size(); d > 1; d--) {
            if (up % d == 0 && low % d == 0) {
                up /= d;
                low /= d;
            }
        }
        return 1;
    }

    int worlds() {
        int ways = 1;
        for (int q = 0; q < questions.size(); q++) {
            int numbers = 0;
            Question question = questions.get(q);
            for (int v = 0; v <= 9; v++) {
                boolean can = question.truth == NONE ? in(v, question.from, question.to) : v == question.truth;
                if (can && (answerOf(q) == NONE || means(answerOf(q)) == v)) numbers++;
            }
            ways *= numbers;
        }
        return ways;
    }

    int never() {
        int bits = 0;
        for (int q = 0; q < questions.size(); q++) {
            boolean someone = false;
            for (int c = 0; c < cards.size(); c++) {
                int truth = questions.get(q).truth;
                someone |= fitting(c, q) && (truth == NONE || means(c) == truth);
            }
            if (!someone) bits += 1 << q;
        }
        return bits;
    }

    int parts() {
        if (cards.isEmpty()) return STATE;
        int best = NONE;
        int nearest = 99;
        for (int width = 0; width <= 9; width++) {
            for (int code = 0; code < 600; code++) {
                int from = code / 10 % 10;
                int to = code % 10;
                if (to - from != width) continue;
                int fit = 0;
                for (int c = 0; c < cards.size(); c++) {
                    if (fitting(c, code / 100, from, to)) fit++;
                }
                int off = Math.abs(fit - (cards.size() - fit));
                if (off < nearest || off == nearest && best != NONE && width == best % 10 - best / 10 % 10 && code < best) {
                    nearest = off;
                    best = code;
                    told = fit;
                }
            }
        }
        return best;
    }

    /** The most that asking takes, at best; 99, if it can't be told for sure. */
    private int asking(int set, int depth) {
        if (Integer.bitCount(set) == 1) return 0;
        int best = 99;
        for (int q = 0; q < questions.size() && depth < 7; q++) {
            int with = set & fits(q);
            if (with != 0 && with != set) {
                int worse = Math.max(asking(with, depth + 1), asking(set - with, depth + 1));
                best = Math.min(best, worse + 1);
            }
        }
        return Math.min(best, 99);
    }

    int finds(int set) {
        if (set <= 0 || set >= 1 << cards.size()) return BAD;
        int best = asking(set, 0);
        if (best >= 99) return NONE;
        told = NONE;
        for (int q = questions.size() - 1; q >= 0 && best > 0; q--) {
            int with = set & fits(q);
            if (with != 0 && with != set && best == 1 + Math.max(asking(with, 1), asking(set - with, 1))) told = q;
        }
        return best;
    }

    int left(int r) {
        if (!in(r, 0, 5)) return BAD;
        if (rows[r] == null) return found(1);
        if (rows[r].length % 2 == 1) return found(5);
        for (int i = 0; i < rows[r].length; i += 2) {
            if (noQuestion(rows[r][i]) || !in(rows[r][i + 1], 0, 1)) return found(3);
        }
        int bits = 0;
        for (int c = 0; c < cards.size(); c++) {
            boolean so = true;
            for (int i = 0; i < rows[r].length; i += 2) {
                so &= fitting(c, rows[r][i]) == (rows[r][i + 1] == 1);
            }
            if (so) bits += 1 << c;
        }
        return bits;
    }

    int forged() {
        int best = NONE;
        int most = -1;
        for (int c = cards.size() - 1; c >= 0; c--) {
            int n = 0;
            for (int q = 0; q < questions.size(); q++) {
                if (fitting(c, q)) n++;
            }
            if (n >= most) {
                most = n;
                best = c;
            }
        }
        if (best != NONE) told = most;
        return best;
    }

    int beside(int r) {
        if (!in(r, 0, 5)) return BAD;
        if (rows[r] == null) return found(1);
        if (rows[r].length > 7) return found(5);
        for (int v : rows[r]) {
            if (!in(v, 0, 59)) return found(3);
        }
        List<Integer> whole = new ArrayList<>();
        List<Integer> meant = new ArrayList<>();
        for (int c = 0; c < cards.size(); c++) {
            whole.add(10 * cards.get(c).kind + means(c));
            meant.add(means(c));
        }
        int alike = 0;
        int byMeaning = 0;
        for (int v = 0; v < 60; v++) {
            int n = 0;
            int m = 0;
            for (int other : rows[r]) {
                if (other == v) n++;
                if (other % 10 == v) m++;
            }
            alike += Math.min(n, Collections.frequency(whole, v));
            byMeaning += Math.min(m, Collections.frequency(meant, v));
        }
        told = byMeaning - alike;
        return alike;
    }

    int habit() {
        int at = 0;
        told = 0;
        for (int c = 0; c < cards.size(); c++) {
            int[] lying = new int[4];
            for (Card card : cards) {
                if (card.kind == cards.get(c).kind) lying[card.shelf]++;
            }
            int home = 3;
            for (int s = 2; s >= 0; s--) {
                if (lying[s] >= lying[home]) home = s;
            }
            if (cards.get(c).shelf == home) at++;
            else told += 1 << c;
        }
        return at;
    }

    /** All ways to lay KINDS of CARDS on SHELVES would be too many: all KINDS that each SHELF can be for. */
    int order() {
        int best = 99;
        for (int code = 0; code < 1296; code++) {
            int[] kindOf = {code % 6, code / 6 % 6, code / 36 % 6, code / 216};
            int moved = 0;
            boolean can = true;
            for (Card card : cards) {
                boolean somewhere = false;
                for (int kind : kindOf) {
                    somewhere |= kind == card.kind;
                }
                can &= somewhere;
                if (kindOf[card.shelf] != card.kind) moved++;
            }
            if (can) best = Math.min(best, moved);
        }
        return best == 99 ? NONE : best;
    }

    int byAge(int r) {
        if (!in(r, 0, 5)) return BAD;
        List<Integer> order = new ArrayList<>();
        for (int c = 0; c < cards.size(); c++) {
            order.add(c);
        }
        order.sort((a, b) -> cards.get(b).age - cards.get(a).age);
        rows[r] = new int[cards.size()];
        for (int i = 0; i < rows[r].length; i++) {
            rows[r][i] = order.get(i);
        }
        return rows[r].length;
    }

    int lots(int n, int seed) {
        if (!in(n, 1, 20) || !in(seed, 1, 2147483646)) return BAD;
        if (questions.isEmpty()) return STATE;
        if (takings.size() + n > 40) return FULL;
        long number = seed;
        int taken = 0;
        for (int reader = 0; reader < n; reader++) {
            number = 48271 * number % 2147483647L;
            int q = (int) (number % questions.size());
            if (answerOf(q) != NONE) continue;
            List<Integer> free = new ArrayList<>();
            for (int c = 0; c < cards.size(); c++) {
                if (fitting(c, q) && answeredBy(c) == NONE) free.add(c);
            }
            if (free.isEmpty()) continue;
            addTaking(q, free.get((int) (number / 64 % free.size())));
            taken++;
        }
        return taken;
    }

    int asked() {
        return told;
    }

    long upper() {
        return up;
    }

    long lower() {
        return low;
    }

    int count(int what) {
        int n = 0;
        switch (what) {
            case 0: return cards.size();
            case 1: return questions.size();
            case 2: return takings.size();
            case 3: return cards.size() - answers.size();
            case 4: return questions.size() - answers.size();
            case 5:
                for (Card card : cards) {
                    if (card.kind == 2 || card.kind == 5) n++;
                }
                return n;
            case 6:
                for (int[] row : rows) {
                    if (row != null) n++;
                }
                return n;
            case 7:
                for (byte[] text : texts) {
                    if (text != null) n++;
                }
                return n;
            case 8:
                for (Kept place : kept) {
                    if (place != null) n++;
                }
                return n;
            default: return BAD;
        }
    }

    int finding() {
        return latest;
    }

    int findings(int f) {
        return in(f, 1, 5) ? often[f] : BAD;
    }

    long digest() {
        List<Integer> all = new ArrayList<>();
        for (int what = 0; what <= 8; what++) {
            all.add(count(what));
        }
        for (int c = 0; c < cards.size(); c++) {
            for (int what = 0; what <= 5; what++) {
                all.add(ofCard(c, what));
            }
        }
        for (int q = 0; q < questions.size(); q++) {
            for (int what = 0; what <= 5; what++) {
                all.add(ofQuestion(q, what));
            }
        }
        for (int[] taking : takings) {
            all.add(10 * taking[0] + taking[1]);
        }
        for (Kept place : kept) {
            all.add(place == null ? -1 : place.takings.size());
        }
        for (int[] row : rows) {
            all.add(row == null ? -1 : row.length);
            for (int i = 0; row != null && i < row.length; i++) {
                all.add(row[i]);
            }
        }
        for (byte[] text : texts) {
            all.add(text == null ? -1 : text.length);
            for (int i = 0; text != null && i < text.length; i++) {
                all.add((int) text[i]);
            }
        }
        long h = 17;
        for (int v : all) {
            h = 31 * h + v;
        }
        return h;
    }
}
