import java.util.Arrays;

/** The library of answers, whose questions were lost in the move. */
public final class LostQuestions {
    public static final int BAD = -1, FULL = -2, FINDING = -3, STATE = -4, SPENT = -6, NONE = -9;

    private static final int NOTHING = 1, BEYOND = 2, UNLIKE = 3, NOUGHT = 4, SIZE = 5;
    private static final int ROWS = 6, ROW_MOST = 40, TEXTS = 4, TEXT_MOST = 80, BLANK = 32;
    private static final int ITEMS = 7, SETS = 1 << ITEMS;
    private static final int KINDS = 6, SHELVES = 4, FIGURES = 10, FACTS = 6, COUNTS = 9;
    private static final int TAKINGS = 40, PLACES_KEPT = 3, MISSING = -1;
    private static final int WRONG = 0, RIGHT = 1, UNKNOWN = 2;
    private static final int LOTS_MOST = 20, LOT_STEP = 48271, LOT_MODULUS = 2147483647, LOT_SHARE = 64;

    private final Row[] rows = new Row[ROWS];
    private final Row[] texts = new Row[TEXTS];
    private final Standing[] kept = new Standing[PLACES_KEPT];
    private final int[] findingCounts = new int[SIZE + 1];
    private final Matchings matchings = new Matchings();
    private final Parting parting = new Parting();
    private Library here = new Library();
    private Library draft = new Library();
    private int told = 0;
    private long chanceUpper = 0;
    private long chanceLower = 1;
    private int latestFinding = 0;

    public LostQuestions() {
        for (int r = 0; r < ROWS; r++) {
            rows[r] = new Row(ROW_MOST);
        }
        for (int t = 0; t < TEXTS; t++) {
            texts[t] = new Row(TEXT_MOST);
        }
        for (int k = 0; k < PLACES_KEPT; k++) {
            kept[k] = new Standing();
        }
    }

    // ---- 1 rows, texts, libraries

    public int row(int r, int n) {
        if (!isRow(r) || n > ROW_MOST) {
            return BAD;
        }
        if (n < 0) {
            return found(SIZE);
        }
        rows[r].begin(n, 0);
        return n;
    }

    public int lay(int r, int i, int v) {
        if (!isRow(r)) {
            return BAD;
        }
        Row row = rows[r];
        if (!row.isThere()) {
            return found(NOTHING);
        }
        if (!row.reaches(i)) {
            return found(BEYOND);
        }
        told = row.places[i];
        row.places[i] = v;
        return 1;
    }

    public int at(int r, int i) {
        if (!isRow(r)) {
            return BAD;
        }
        Row row = rows[r];
        if (!row.isThere()) {
            return found(NOTHING);
        }
        if (!row.reaches(i)) {
            return found(BEYOND);
        }
        told = row.places[i];
        return 1;
    }

    public int tear(int r) {
        if (!isRow(r)) {
            return BAD;
        }
        if (!rows[r].isThere()) {
            return found(NOTHING);
        }
        rows[r].size = MISSING;
        return 1;
    }

    public int copy(int r, int i, int to, int j, int n) {
        if (!isRow(r) || !isRow(to)) {
            return BAD;
        }
        if (n < 0) {
            return found(SIZE);
        }
        if (!rows[r].isThere() || !rows[to].isThere()) {
            return found(NOTHING);
        }
        if (!rows[r].holds(i, n) || !rows[to].holds(j, n)) {
            return found(BEYOND);
        }
        System.arraycopy(rows[r].places, i, rows[to].places, j, n);
        return 1;
    }

    public int mean(int r) {
        if (!isRow(r)) {
            return BAD;
        }
        Row row = rows[r];
        if (!row.isThere()) {
            return found(NOTHING);
        }
        if (row.size == 0) {
            return found(NOUGHT);
        }
        long sum = 0;
        for (int i = 0; i < row.size; i++) {
            sum += row.places[i];
        }
        told = (int) (sum / row.size);
        return 1;
    }

    public int text(int t, int n) {
        if (!isText(t) || n > TEXT_MOST) {
            return BAD;
        }
        if (n < 0) {
            return found(SIZE);
        }
        texts[t].begin(n, BLANK);
        return n;
    }

    public int put(int t, int i, int v) {
        if (!isText(t)) {
            return BAD;
        }
        Row text = texts[t];
        if (!text.isThere()) {
            return found(NOTHING);
        }
        if (!text.reaches(i)) {
            return found(BEYOND);
        }
        int before = text.places[i];
        text.places[i] = (byte) v;
        return before + 1000;
    }

    public int fault(int t) {
        if (!isText(t)) {
            return BAD;
        }
        if (!texts[t].isThere()) {
            return found(NOTHING);
        }
        return draft.readFrom(texts[t]);
    }

    public int library(int t) {
        if (!isText(t)) {
            return BAD;
        }
        if (!texts[t].isThere()) {
            return found(NOTHING);
        }
        if (draft.readFrom(texts[t]) != NONE) {
            return STATE;
        }
        Library old = here;
        here = draft;
        draft = old;
        for (int k = 0; k < PLACES_KEPT; k++) {
            kept[k].takings = MISSING;
        }
        return here.cards;
    }

    public int card(int c, int what) {
        if (!here.isCard(c) || what < 0 || what >= FACTS) {
            return BAD;
        }
        told = here.cardFact(c, what);
        return 1;
    }

    public int question(int q, int what) {
        if (!here.isQuestion(q) || what < 0 || what >= FACTS) {
            return BAD;
        }
        told = here.questionFact(q, what);
        return 1;
    }

    public int mark(int c, int kind) {
        if (!here.isCard(c) || kind <= Kinds.NUMBER || kind >= KINDS) {
            return BAD;
        }
        if (!Kinds.isA(here.kinds[c], kind)) {
            return found(UNLIKE);
        }
        return here.markOf(c, kind);
    }

    public int shelve(int c, int s) {
        if (!here.isCard(c) || s < 0 || s >= SHELVES) {
            return BAD;
        }
        int before = here.now.shelves[c];
        here.now.shelves[c] = s;
        return before;
    }

    public int age(int c, int v) {
        if (!here.isCard(c) || v < 0 || v >= FIGURES) {
            return BAD;
        }
        int before = here.now.ages[c];
        here.now.ages[c] = v;
        return before;
    }

    public int truth(int q, int v) {
        if (!here.isQuestion(q) || v != NONE && (v < 0 || v >= FIGURES)) {
            return BAD;
        }
        int before = here.now.truths[q];
        here.now.truths[q] = v;
        return before;
    }

    // ---- 2 readers

    public int fits(int q) {
        return here.isQuestion(q) ? here.fittingCards(q) : BAD;
    }

    public int take(int q, int c) {
        if (!here.isQuestion(q) || !here.isCard(c)) {
            return BAD;
        }
        if (!here.isFitting(c, q) || !here.isFreeQuestion(q) || !here.isFreeCard(c)) {
            return STATE;
        }
        if (here.now.takings >= TAKINGS) {
            return FULL;
        }
        here.now.addTaking(q, c);
        return here.verdict(q);
    }

    public int bring(int q) {
        if (!here.isQuestion(q)) {
            return BAD;
        }
        if (here.isFreeQuestion(q)) {
            return STATE;
        }
        int c = here.now.cardOf[q];
        here.now.cardOf[q] = NONE;
        return c;
    }

    public int undo(int n) {
        if (n < 0 || n > here.now.takings) {
            return BAD;
        }
        return here.now.goBack(n);
    }

    public int right() {
        told = here.answeredWith(WRONG);
        return here.answeredWith(RIGHT);
    }

    public int keep(int k) {
        if (!isPlaceKept(k)) {
            return BAD;
        }
        if (here.cards == 0) {
            return STATE;
        }
        kept[k].become(here.now);
        return here.now.takings;
    }

    public int on(int k) {
        if (!isPlaceKept(k)) {
            return BAD;
        }
        if (kept[k].takings == MISSING) {
            return found(NOTHING);
        }
        here.now.become(kept[k]);
        return here.now.takings;
    }

    // ---- 3 matched (FREE ones alone)

    public int match(int r) {
        if (!isRow(r)) {
            return BAD;
        }
        matchings.countIn(here);
        matchings.layFullest(rows[r]);
        return matchings.pairs;
    }

    public int wished(int r) {
        if (!isRow(r)) {
            return BAD;
        }
        return matchings.layMostWished(here, rows[r]);
    }

    public int fullest() {
        matchings.countIn(here);
        int inAll = 0;
        for (int q = 0; q < here.questions; q++) {
            if (matchings.sureCard(q) != NONE) {
                inAll++;
            }
        }
        told = inAll;
        return matchings.total;
    }

    public int may(int c) {
        if (!here.isCard(c)) {
            return BAD;
        }
        matchings.countIn(here);
        int bits = 0;
        for (int q = 0; q < here.questions; q++) {
            if (matchings.countWith(q, c) > 0) {
                bits |= 1 << q;
            }
        }
        return bits;
    }

    public int sure(int q) {
        if (!here.isQuestion(q)) {
            return BAD;
        }
        matchings.countIn(here);
        return matchings.sureCard(q);
    }

    public int test() {
        matchings.countIn(here);
        int best = NONE;
        int fewest = matchings.total;
        for (int q = 0; q < here.questions; q++) {
            for (int c = 0; c < here.cards; c++) {
                int with = matchings.countWith(q, c);
                int worst = Math.max(with, matchings.total - with);
                // a pair in none or in all leaves all of them, so it never is fewer
                if (worst < fewest) {
                    fewest = worst;
                    best = 10 * q + c;
                }
            }
        }
        if (best != NONE) {
            told = fewest;
        }
        return best;
    }

    public int odds(int q, int c) {
        if (!here.isQuestion(q) || !here.isCard(c)) {
            return BAD;
        }
        matchings.countIn(here);
        tellChances(matchings.countWith(q, c), matchings.total);
        return 1;
    }

    // ---- 4 worlds

    public int worlds() {
        int ways = 1;
        for (int q = 0; q < here.questions; q++) {
            ways *= here.waysOfTruth(q);
        }
        return ways;
    }

    public int never() {
        int bits = 0;
        for (int q = 0; q < here.questions; q++) {
            if (here.trueCards(q) == 0) {
                bits |= 1 << q;
            }
        }
        return bits;
    }

    // ---- 5 parted, found

    public int parts() {
        if (here.cards == 0) {
            return STATE;
        }
        parting.partBest(here);
        told = parting.fitting;
        return parting.best;
    }

    public int finds(int set) {
        if (set <= 0 || set >= 1 << here.cards) {
            return BAD;
        }
        parting.findIn(here, set);
        if (parting.fewest != NONE) {
            told = parting.best;
        }
        return parting.fewest;
    }

    public int left(int r) {
        if (!isRow(r)) {
            return BAD;
        }
        Row row = rows[r];
        if (!row.isThere()) {
            return found(NOTHING);
        }
        if (row.size % 2 != 0) {
            return found(SIZE);
        }
        for (int i = 0; i + 1 < row.size; i += 2) {
            if (!here.isQuestion(row.places[i]) || row.places[i + 1] != 0 && row.places[i + 1] != 1) {
                return found(UNLIKE);
            }
        }
        int bits = here.allCards();
        for (int i = 0; i + 1 < row.size; i += 2) {
            int fitting = here.fittingCards(row.places[i]);
            bits &= row.places[i + 1] == 1 ? fitting : ~fitting;
        }
        return bits;
    }

    public int forged() {
        int best = NONE;
        int most = -1;
        for (int c = 0; c < here.cards; c++) {
            int questions = here.questionsFitted(c);
            if (questions > most) {
                most = questions;
                best = c;
            }
        }
        if (best != NONE) {
            told = most;
        }
        return best;
    }

    // ---- 6 two libraries, habits

    public int beside(int r) {
        if (!isRow(r)) {
            return BAD;
        }
        Row row = rows[r];
        if (!row.isThere()) {
            return found(NOTHING);
        }
        if (row.size > ITEMS) {
            return found(SIZE);
        }
        for (int i = 0; i < row.size; i++) {
            if (row.places[i] < 0 || row.places[i] >= 10 * KINDS) {
                return found(UNLIKE);
            }
        }
        int alike = here.pairsWith(row, true);
        told = here.pairsWith(row, false) - alike;
        return alike;
    }

    public int habit() {
        int strays = here.strayCards();
        told = strays;
        return here.cards - Integer.bitCount(strays);
    }

    public int order() {
        return here.fewestMoved();
    }

    public int byAge(int r) {
        if (!isRow(r)) {
            return BAD;
        }
        here.layByAge(rows[r]);
        return here.cards;
    }

    // ---- 7 lots

    public int lots(int n, int seed) {
        if (n < 1 || n > LOTS_MOST || seed < 1 || seed >= LOT_MODULUS) {
            return BAD;
        }
        if (here.questions == 0) {
            return STATE;
        }
        if (here.now.takings + n > TAKINGS) {
            return FULL;
        }
        long lot = seed;
        int taken = 0;
        for (int reader = 0; reader < n; reader++) {
            lot = lot * LOT_STEP % LOT_MODULUS;
            int q = (int) (lot % here.questions);
            int c = here.cardByLot(q, lot / LOT_SHARE);
            if (c != NONE) {
                here.now.addTaking(q, c);
                taken++;
            }
        }
        return taken;
    }

    // ---- 8 what is told

    public int asked() {
        return told;
    }

    public long upper() {
        return chanceUpper;
    }

    public long lower() {
        return chanceLower;
    }

    public int count(int what) {
        switch (what) {
            case 0:
                return here.cards;
            case 1:
                return here.questions;
            case 2:
                return here.now.takings;
            case 3:
                return here.cards - here.answered();
            case 4:
                return here.questions - here.answered();
            case 5:
                return here.placesAmong();
            case 6:
                return thereAmong(rows);
            case 7:
                return thereAmong(texts);
            case 8:
                return keptThere();
            default:
                return BAD;
        }
    }

    public int finding() {
        return latestFinding;
    }

    public int findings(int f) {
        return f < NOTHING || f > SIZE ? BAD : findingCounts[f];
    }

    public long digest() {
        long h = 17;
        for (int what = 0; what < COUNTS; what++) {
            h = 31 * h + count(what);
        }
        h = here.foldInto(h);
        for (int k = 0; k < PLACES_KEPT; k++) {
            h = 31 * h + kept[k].takings;
        }
        for (int r = 0; r < ROWS; r++) {
            h = rows[r].foldInto(h);
        }
        for (int t = 0; t < TEXTS; t++) {
            h = texts[t].foldInto(h);
        }
        return h;
    }

    private int found(int f) {
        latestFinding = f;
        findingCounts[f]++;
        return FINDING;
    }

    private void tellChances(long upper, long lower) {
        long shared = greatestShared(upper, lower);
        if (shared > 0) {
            chanceUpper = upper / shared;
            chanceLower = lower / shared;
        }
    }

    private int keptThere() {
        int there = 0;
        for (int k = 0; k < PLACES_KEPT; k++) {
            if (kept[k].takings != MISSING) {
                there++;
            }
        }
        return there;
    }

    private static int thereAmong(Row[] some) {
        int there = 0;
        for (int i = 0; i < some.length; i++) {
            if (some[i].isThere()) {
                there++;
            }
        }
        return there;
    }

    /** The counts of MATCHINGS stay far below what 64 steps of Euclid's can take. */
    private static long greatestShared(long a, long b) {
        long greater = a;
        long less = b;
        for (int step = 0; step < 64 && less != 0; step++) {
            long rest = greater % less;
            greater = less;
            less = rest;
        }
        return greater;
    }

    private static boolean isRow(int r) {
        return r >= 0 && r < ROWS;
    }

    private static boolean isText(int t) {
        return t >= 0 && t < TEXTS;
    }

    private static boolean isPlaceKept(int k) {
        return k >= 0 && k < PLACES_KEPT;
    }

    /** A ROW, or a TEXT: its places are made once, and used again whenever it begins anew. */
    private static final class Row {
        private final int[] places;
        private int size = MISSING;

        Row(int most) {
            places = new int[Math.max(most, 0)];
        }

        boolean isThere() {
            return size != MISSING;
        }

        boolean reaches(int i) {
            return i >= 0 && i < size;
        }

        /** Subtracts, as the sum of i and n may be above all ints. */
        boolean holds(int i, int n) {
            return i >= 0 && n >= 0 && n <= size && i <= size - n;
        }

        void begin(int n, int v) {
            Arrays.fill(places, v);
            size = Math.max(0, Math.min(n, places.length));
        }

        void layAt(int i, int v) {
            if (reaches(i)) {
                places[i] = v;
            }
        }

        long foldInto(long h) {
            long folded = 31 * h + size;
            for (int i = 0; i < size; i++) {
                folded = 31 * folded + places[i];
            }
            return folded;
        }
    }

    /** What there is to know of a KIND, whichever CARD it is of. */
    private static final class Kinds {
        private static final int NUMBER = 0, YES = 1, PLACE = 2, NEVER = 3, TIME = 4, BEHIND = 5;
        private static final int[] LETTERS = {'n', 'y', 'p', 'v', 't', 'b'};

        static int ofLetter(int letter) {
            for (int kind = 0; kind < KINDS; kind++) {
                if (LETTERS[kind] == letter) {
                    return kind;
                }
            }
            return NONE;
        }

        static boolean isA(int kind, int wanted) {
            return wanted == NUMBER || kind == wanted
                || wanted == YES && kind == NEVER
                || wanted == PLACE && kind == BEHIND;
        }

        static int meaning(int kind, int says, int age) {
            switch (kind) {
                case YES:
                    return says >= 5 ? 1 : 0;
                case NEVER:
                    return 0;
                case BEHIND:
                    return (says + 1) % FIGURES;
                case TIME:
                    return (says + age) % FIGURES;
                default:
                    return says;
            }
        }
    }

    /** What may be kept of a LIBRARY, and gone on from. */
    private static final class Standing {
        private final int[] shelves = new int[ITEMS];
        private final int[] ages = new int[ITEMS];
        private final int[] truths = new int[ITEMS];
        private final int[] cardOf = new int[ITEMS];
        private final int[] taken = new int[TAKINGS];
        /** What answered what ahead of each TAKING: bringing is not a TAKING, so these alone can't tell it. */
        private final int[] cardsAhead = new int[TAKINGS * ITEMS];
        private int takings = MISSING;

        void begin() {
            takings = 0;
            Arrays.fill(truths, NONE);
            Arrays.fill(cardOf, NONE);
        }

        int questionOf(int c) {
            for (int q = 0; q < ITEMS; q++) {
                if (cardOf[q] == c) {
                    return q;
                }
            }
            return NONE;
        }

        void addTaking(int q, int c) {
            if (takings < 0 || takings >= TAKINGS) {
                return;
            }
            System.arraycopy(cardOf, 0, cardsAhead, takings * ITEMS, ITEMS);
            taken[takings] = 10 * q + c;
            takings++;
            cardOf[q] = c;
        }

        int goBack(int n) {
            if (n < 0 || n >= takings) {
                return 0;
            }
            int undone = takings - n;
            System.arraycopy(cardsAhead, n * ITEMS, cardOf, 0, ITEMS);
            takings = n;
            return undone;
        }

        void become(Standing other) {
            System.arraycopy(other.shelves, 0, shelves, 0, ITEMS);
            System.arraycopy(other.ages, 0, ages, 0, ITEMS);
            System.arraycopy(other.truths, 0, truths, 0, ITEMS);
            System.arraycopy(other.cardOf, 0, cardOf, 0, ITEMS);
            System.arraycopy(other.taken, 0, taken, 0, TAKINGS);
            System.arraycopy(other.cardsAhead, 0, cardsAhead, 0, TAKINGS * ITEMS);
            takings = other.takings;
        }
    }

    /** CARDS and QUESTIONS as a TEXT told them, and how they stand now. */
    private static final class Library {
        private static final int ASKING = 'q', CARD_SIGNS = 4, QUESTION_SIGNS = 5;

        private final int[] kinds = new int[ITEMS];
        private final int[] says = new int[ITEMS];
        private final int[] asksFor = new int[ITEMS];
        private final int[] froms = new int[ITEMS];
        private final int[] tos = new int[ITEMS];
        private final int[] wishes = new int[ITEMS];
        private final Standing now = new Standing();
        private int cards = 0;
        private int questions = 0;

        Library() {
            now.begin();
        }

        /** Becomes what a TEXT tells; its FAULT, behind which this one is of no use. */
        int readFrom(Row text) {
            cards = 0;
            questions = 0;
            now.begin();
            int place = 0;
            // each round but the last passes signs, so there are no more than that
            for (int round = 0; round <= text.size; round++) {
                place = pastBlanks(text, place);
                if (!text.reaches(place)) {
                    return cards == 0 ? text.size : NONE;
                }
                boolean asks = text.places[place] == ASKING;
                int wrong = asks ? readQuestion(text, place) : readCard(text, place);
                if (wrong != NONE) {
                    return wrong;
                }
                place += asks ? QUESTION_SIGNS : CARD_SIGNS;
            }
            return text.size;
        }

        private static int pastBlanks(Row text, int from) {
            for (int place = from; place < text.size; place++) {
                if (text.places[place] != BLANK) {
                    return place;
                }
            }
            return text.size;
        }

        private int readCard(Row text, int place) {
            int kind = Kinds.ofLetter(text.places[place]);
            if (kind == NONE || questions > 0 || cards >= ITEMS) {
                return place;
            }
            kinds[cards] = kind;
            says[cards] = figure(text, place + 1, 0, 9);
            now.shelves[cards] = figure(text, place + 2, 0, SHELVES - 1);
            now.ages[cards] = figure(text, place + 3, 0, 9);
            if (says[cards] == NONE) {
                return place + 1;
            }
            if (now.shelves[cards] == NONE) {
                return place + 2;
            }
            if (now.ages[cards] == NONE) {
                return place + 3;
            }
            cards++;
            return NONE;
        }

        private int readQuestion(Row text, int place) {
            if (cards == 0 || questions >= ITEMS) {
                return place;
            }
            asksFor[questions] = figure(text, place + 1, 0, KINDS - 1);
            froms[questions] = figure(text, place + 2, 0, 9);
            tos[questions] = figure(text, place + 3, froms[questions], 9);
            wishes[questions] = figure(text, place + 4, 1, 9);
            if (asksFor[questions] == NONE) {
                return place + 1;
            }
            if (froms[questions] == NONE) {
                return place + 2;
            }
            if (tos[questions] == NONE) {
                return place + 3;
            }
            if (wishes[questions] == NONE) {
                return place + 4;
            }
            questions++;
            return NONE;
        }

        /** NONE, if there is no figure of least to most; at the TEXT's end too: its size is that place then. */
        private static int figure(Row text, int place, int least, int most) {
            if (!text.reaches(place)) {
                return NONE;
            }
            int value = text.places[place] - '0';
            return value >= Math.max(least, 0) && value <= most ? value : NONE;
        }

        boolean isCard(int c) {
            return c >= 0 && c < cards;
        }

        boolean isQuestion(int q) {
            return q >= 0 && q < questions;
        }

        int allCards() {
            return (1 << cards) - 1;
        }

        boolean isFreeCard(int c) {
            return now.questionOf(c) == NONE;
        }

        boolean isFreeQuestion(int q) {
            return now.cardOf[q] == NONE;
        }

        int freeCards() {
            int bits = allCards();
            for (int q = 0; q < questions; q++) {
                if (!isFreeQuestion(q)) {
                    bits &= ~(1 << now.cardOf[q]);
                }
            }
            return bits;
        }

        int answered() {
            int answered = 0;
            for (int q = 0; q < questions; q++) {
                if (!isFreeQuestion(q)) {
                    answered++;
                }
            }
            return answered;
        }

        int meaningOf(int c) {
            return Kinds.meaning(kinds[c], says[c], now.ages[c]);
        }

        boolean isFitting(int c, int q) {
            int meaning = meaningOf(c);
            return Kinds.isA(kinds[c], asksFor[q]) && meaning >= froms[q] && meaning <= tos[q];
        }

        int fittingCards(int q) {
            int bits = 0;
            for (int c = 0; c < cards; c++) {
                if (isFitting(c, q)) {
                    bits |= 1 << c;
                }
            }
            return bits;
        }

        /** Those that FIT and, if the TRUTH is told, MEAN it. */
        int trueCards(int q) {
            int truth = now.truths[q];
            int bits = 0;
            for (int c = 0; c < cards; c++) {
                if (isFitting(c, q) && (truth == NONE || meaningOf(c) == truth)) {
                    bits |= 1 << c;
                }
            }
            return bits;
        }

        int questionsFitted(int c) {
            int fitted = 0;
            for (int q = 0; q < questions; q++) {
                if (isFitting(c, q)) {
                    fitted++;
                }
            }
            return fitted;
        }

        int verdict(int q) {
            if (isFreeQuestion(q) || now.truths[q] == NONE) {
                return UNKNOWN;
            }
            return meaningOf(now.cardOf[q]) == now.truths[q] ? RIGHT : WRONG;
        }

        int answeredWith(int verdict) {
            int answered = 0;
            for (int q = 0; q < questions; q++) {
                if (verdict(q) == verdict) {
                    answered++;
                }
            }
            return answered;
        }

        /** A CARD that was TAKEN may have aged out of what its QUESTION asked: then no number is left. */
        int waysOfTruth(int q) {
            if (now.truths[q] != NONE) {
                return verdict(q) == WRONG ? 0 : 1;
            }
            if (isFreeQuestion(q)) {
                return tos[q] - froms[q] + 1;
            }
            int meaning = meaningOf(now.cardOf[q]);
            return meaning >= froms[q] && meaning <= tos[q] ? 1 : 0;
        }

        int cardFact(int c, int what) {
            switch (what) {
                case 0:
                    return kinds[c];
                case 1:
                    return says[c];
                case 2:
                    return meaningOf(c);
                case 3:
                    return now.shelves[c];
                case 4:
                    return now.ages[c];
                default:
                    return now.questionOf(c);
            }
        }

        int questionFact(int q, int what) {
            switch (what) {
                case 0:
                    return asksFor[q];
                case 1:
                    return froms[q];
                case 2:
                    return tos[q];
                case 3:
                    return wishes[q];
                case 4:
                    return now.truths[q];
                default:
                    return now.cardOf[q];
            }
        }

        int markOf(int c, int kind) {
            switch (kind) {
                case Kinds.YES:
                    return yesMeaning(meaningOf(c));
                case Kinds.PLACE:
                    return cardsOn(now.shelves[c]) - 1;
                case Kinds.NEVER:
                    return questionsFitted(c);
                case Kinds.TIME:
                    return meaningOf(c) - says[c] + 10;
                default:
                    return placesSaying(meaningOf(c));
            }
        }

        private int yesMeaning(int meaning) {
            int alike = 0;
            for (int c = 0; c < cards; c++) {
                if (Kinds.isA(kinds[c], Kinds.YES) && meaningOf(c) == meaning) {
                    alike++;
                }
            }
            return alike;
        }

        private int cardsOn(int shelf) {
            int lying = 0;
            for (int c = 0; c < cards; c++) {
                if (now.shelves[c] == shelf) {
                    lying++;
                }
            }
            return lying;
        }

        private int placesSaying(int number) {
            int saying = 0;
            for (int c = 0; c < cards; c++) {
                if (Kinds.isA(kinds[c], Kinds.PLACE) && says[c] == number) {
                    saying++;
                }
            }
            return saying;
        }

        int placesAmong() {
            int among = 0;
            for (int c = 0; c < cards; c++) {
                if (Kinds.isA(kinds[c], Kinds.PLACE)) {
                    among++;
                }
            }
            return among;
        }

        /** CARDS of a ROW that are alike can be paired in any order: the first that is left will do. */
        int pairsWith(Row row, boolean byKind) {
            int used = 0;
            for (int i = 0; i < row.size; i++) {
                used |= firstAlike(row.places[i], used, byKind);
            }
            return Integer.bitCount(used);
        }

        private int firstAlike(int other, int used, boolean byKind) {
            for (int c = 0; c < cards; c++) {
                boolean alike = meaningOf(c) == other % 10 && (!byKind || kinds[c] == other / 10);
                if (alike && (used & 1 << c) == 0) {
                    return 1 << c;
                }
            }
            return 0;
        }

        private int cardsOfOn(int kind, int shelf) {
            int lying = 0;
            for (int c = 0; c < cards; c++) {
                if (kinds[c] == kind && now.shelves[c] == shelf) {
                    lying++;
                }
            }
            return lying;
        }

        private int homeOf(int kind) {
            int home = 0;
            int most = 0;
            for (int shelf = 0; shelf < SHELVES; shelf++) {
                int lying = cardsOfOn(kind, shelf);
                if (lying > most) {
                    most = lying;
                    home = shelf;
                }
            }
            return home;
        }

        int strayCards() {
            int strays = 0;
            for (int c = 0; c < cards; c++) {
                if (now.shelves[c] != homeOf(kinds[c])) {
                    strays |= 1 << c;
                }
            }
            return strays;
        }

        int fewestMoved() {
            int present = 0;
            for (int c = 0; c < cards; c++) {
                present |= 1 << kinds[c];
            }
            if (Integer.bitCount(present) > SHELVES) {
                return NONE;
            }
            return cards == 0 ? 0 : cards - mostStaying(this, 0, present, present);
        }

        /** From a SHELF on, each for one KIND of those present; KINDS that lack one still must come by it. */
        private static int mostStaying(Library library, int shelf, int present, int lacking) {
            if (Integer.bitCount(lacking) > SHELVES - shelf) {
                return MISSING;
            }
            if (shelf >= SHELVES) {
                return 0;
            }
            int most = MISSING;
            for (int kind = 0; kind < KINDS; kind++) {
                if ((present & 1 << kind) != 0) {
                    int others = mostStaying(library, shelf + 1, present, lacking & ~(1 << kind));
                    if (others != MISSING) {
                        most = Math.max(most, others + library.cardsOfOn(kind, shelf));
                    }
                }
            }
            return most;
        }

        void layByAge(Row row) {
            row.begin(cards, 0);
            int next = 0;
            for (int age = FIGURES - 1; age >= 0; age--) {
                for (int c = 0; c < cards; c++) {
                    if (now.ages[c] == age) {
                        row.layAt(next, c);
                        next++;
                    }
                }
            }
        }

        /** NONE, if nothing comes of it. */
        int cardByLot(int q, long lot) {
            int choice = isFreeQuestion(q) ? fittingCards(q) & freeCards() : 0;
            int choices = Integer.bitCount(choice);
            if (choices == 0) {
                return NONE;
            }
            long ahead = lot % choices;
            for (int c = 0; c < cards; c++) {
                if ((choice & 1 << c) != 0) {
                    if (ahead == 0) {
                        return c;
                    }
                    ahead--;
                }
            }
            return NONE;
        }

        long foldInto(long h) {
            long folded = h;
            for (int c = 0; c < cards; c++) {
                for (int what = 0; what < FACTS; what++) {
                    folded = 31 * folded + cardFact(c, what);
                }
            }
            for (int q = 0; q < questions; q++) {
                for (int what = 0; what < FACTS; what++) {
                    folded = 31 * folded + questionFact(q, what);
                }
            }
            for (int n = 0; n < now.takings; n++) {
                folded = 31 * folded + now.taken[n];
            }
            return folded;
        }
    }

    /**
     * MATCHINGS of what is FREE, counted by QUESTIONS in their order and by sets of CARDS that those
     * ahead have used: one by one there could be a hundred thousand, of these there are 1024 at most.
     */
    private static final class Matchings {
        private final int[] pairable = new int[ITEMS];
        private final int[] waysAhead = new int[(ITEMS + 1) * SETS];
        private final int[] waysOn = new int[(ITEMS + 1) * SETS];
        private int questions = 0;
        private int cards = 0;
        private int sets = 1;
        private int pairs = 0;
        private int total = 1;

        /** Each of the other calls tells of the LIBRARY that this one counted last. */
        void countIn(Library library) {
            countAhead(library);
            pairs = mostPairs();
            countOn();
            total = waysOn[0];
        }

        private void countAhead(Library library) {
            questions = library.questions;
            cards = library.cards;
            sets = 1 << cards;
            int free = library.freeCards();
            Arrays.fill(waysAhead, 0);
            waysAhead[0] = 1;
            for (int q = 0; q < questions; q++) {
                pairable[q] = library.isFreeQuestion(q) ? library.trueCards(q) & free : 0;
                for (int used = 0; used < sets; used++) {
                    spreadAhead(q, used, waysAhead[q * SETS + used]);
                }
            }
        }

        private void spreadAhead(int q, int used, int ways) {
            if (ways == 0) {
                return;
            }
            int next = (q + 1) * SETS;
            waysAhead[next + used] += ways;
            int choice = pairable[q] & ~used;
            for (int c = 0; c < cards; c++) {
                if ((choice & 1 << c) != 0) {
                    waysAhead[next + (used | 1 << c)] += ways;
                }
            }
        }

        private int mostPairs() {
            int most = 0;
            for (int used = 0; used < sets; used++) {
                if (waysAhead[questions * SETS + used] > 0) {
                    most = Math.max(most, Integer.bitCount(used));
                }
            }
            return most;
        }

        private void countOn() {
            for (int used = 0; used < sets; used++) {
                waysOn[questions * SETS + used] = Integer.bitCount(used) == pairs ? 1 : 0;
            }
            for (int q = questions - 1; q >= 0; q--) {
                for (int used = 0; used < sets; used++) {
                    boolean comes = waysAhead[q * SETS + used] > 0;
                    waysOn[q * SETS + used] = comes ? waysFrom(q, used) : 0;
                }
            }
        }

        private int waysFrom(int q, int used) {
            int next = (q + 1) * SETS;
            int ways = waysOn[next + used];
            int choice = pairable[q] & ~used;
            for (int c = 0; c < cards; c++) {
                if ((choice & 1 << c) != 0) {
                    ways += waysOn[next + (used | 1 << c)];
                }
            }
            return ways;
        }

        /** How many of the FULLEST have this pair. */
        int countWith(int q, int c) {
            if ((pairable[q] & 1 << c) == 0) {
                return 0;
            }
            int with = 0;
            for (int used = 0; used < sets; used++) {
                int ways = waysAhead[q * SETS + used];
                if (ways > 0 && (used & 1 << c) == 0) {
                    with += ways * waysOn[(q + 1) * SETS + (used | 1 << c)];
                }
            }
            return with;
        }

        int sureCard(int q) {
            for (int c = 0; c < cards; c++) {
                if (countWith(q, c) == total) {
                    return c;
                }
            }
            return NONE;
        }

        void layFullest(Row row) {
            row.begin(questions, NONE);
            int used = 0;
            for (int q = 0; q < questions; q++) {
                int c = firstFullest(q, used);
                row.layAt(q, c);
                used |= c == NONE ? 0 : 1 << c;
            }
        }

        private int firstFullest(int q, int used) {
            int choice = pairable[q] & ~used;
            for (int c = 0; c < cards; c++) {
                if ((choice & 1 << c) != 0 && waysOn[(q + 1) * SETS + (used | 1 << c)] > 0) {
                    return c;
                }
            }
            return NONE;
        }

        /** Uses the rows of counts for what is WISHED, so that a LIBRARY has to be counted anew behind it. */
        int layMostWished(Library library, Row row) {
            countAhead(library);
            for (int used = 0; used < sets; used++) {
                waysOn[questions * SETS + used] = 0;
            }
            for (int q = questions - 1; q >= 0; q--) {
                for (int used = 0; used < sets; used++) {
                    boolean comes = waysAhead[q * SETS + used] > 0;
                    waysOn[q * SETS + used] = comes ? mostFrom(q, used, library.wishes[q]) : 0;
                }
            }
            row.begin(questions, NONE);
            int used = 0;
            for (int q = 0; q < questions; q++) {
                int c = firstWished(q, used, library.wishes[q]);
                row.layAt(q, c);
                used |= c == NONE ? 0 : 1 << c;
            }
            return waysOn[0];
        }

        private int mostFrom(int q, int used, int wish) {
            int next = (q + 1) * SETS;
            int most = waysOn[next + used];
            int choice = pairable[q] & ~used;
            for (int c = 0; c < cards; c++) {
                if ((choice & 1 << c) != 0) {
                    most = Math.max(most, wish + waysOn[next + (used | 1 << c)]);
                }
            }
            return most;
        }

        private int firstWished(int q, int used, int wish) {
            int most = waysOn[q * SETS + used];
            int choice = pairable[q] & ~used;
            for (int c = 0; c < cards; c++) {
                boolean open = (choice & 1 << c) != 0;
                if (open && wish + waysOn[(q + 1) * SETS + (used | 1 << c)] == most) {
                    return c;
                }
            }
            return NONE;
        }
    }

    /** Questions that part CARDS: the best of all there could be, and the fewest of those there are. */
    private static final class Parting {
        private final int[] meaning = new int[FIGURES];
        private final int[] cardsOf = new int[ITEMS];
        private final int[] fewestOf = new int[SETS];
        private int best = NONE;
        private int fitting = 0;
        private int fewest = 0;
        private int leastRank = 0;

        void partBest(Library library) {
            leastRank = Integer.MAX_VALUE;
            for (int kind = 0; kind < KINDS; kind++) {
                countMeanings(library, kind);
                for (int from = 0; from < FIGURES; from++) {
                    partFrom(kind, from, library.cards);
                }
            }
        }

        private void countMeanings(Library library, int kind) {
            Arrays.fill(meaning, 0);
            for (int c = 0; c < library.cards; c++) {
                if (Kinds.isA(library.kinds[c], kind)) {
                    meaning[library.meaningOf(c)]++;
                }
            }
        }

        private void partFrom(int kind, int from, int cards) {
            int fit = 0;
            for (int to = from; to < FIGURES; to++) {
                fit += meaning[to];
                // twice as many, so that halves stay whole; how wide it is counts behind that
                int rank = FIGURES * Math.abs(2 * fit - cards) + to - from;
                if (rank < leastRank) {
                    leastRank = rank;
                    best = 100 * kind + 10 * from + to;
                    fitting = fit;
                }
            }
        }

        void findIn(Library library, int set) {
            for (int q = 0; q < library.questions; q++) {
                cardsOf[q] = library.fittingCards(q);
            }
            // what a set is parted into are lesser numbers, so these are known by then
            for (int part = 1; part <= set && part < SETS; part++) {
                if ((part & ~set) == 0) {
                    fewestOf[part] = fewestFor(part, library.questions);
                }
            }
            fewest = fewestOf[set];
        }

        private int fewestFor(int set, int questions) {
            best = NONE;
            if (Integer.bitCount(set) == 1) {
                return 0;
            }
            int least = NONE;
            for (int q = 0; q < questions; q++) {
                int with = set & cardsOf[q];
                int without = set & ~cardsOf[q];
                if (with != 0 && without != 0 && fewestOf[with] != NONE && fewestOf[without] != NONE) {
                    int needed = 1 + Math.max(fewestOf[with], fewestOf[without]);
                    if (least == NONE || needed < least) {
                        least = needed;
                        best = q;
                    }
                }
            }
            return least;
        }
    }
}
