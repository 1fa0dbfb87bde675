/** Each promise of the document by itself: ordinary inputs, the edges that it names, wrong inputs. */
public final class PromiseTest extends Bench {
    private PromiseTest(Due due) {
        super(due);
    }

    public static void main(String[] args) {
        Due due = new Due();
        PromiseTest test = new PromiseTest(due);
        test.run(1, test::newObject);
        test.run(2, test::row);
        test.run(3, test::lay);
        test.run(4, test::at);
        test.run(5, test::tear);
        test.run(6, test::copy);
        test.run(7, test::mean);
        test.run(8, test::text);
        test.run(9, test::put);
        test.run(10, test::fault);
        test.run(11, test::library);
        test.run(12, test::card);
        test.run(13, test::question);
        test.run(14, test::mark);
        test.run(15, test::shelve);
        test.run(16, test::age);
        test.run(17, test::truth);
        test.run(18, test::fits);
        test.run(19, test::take);
        test.run(20, test::bring);
        test.run(21, test::undo);
        test.run(22, test::right);
        test.run(23, test::keep);
        test.run(24, test::on);
        test.run(25, test::match);
        test.run(26, test::wished);
        test.run(27, test::fullest);
        test.run(28, test::may);
        test.run(29, test::sure);
        test.run(30, test::test);
        test.run(31, test::odds);
        test.run(32, test::worlds);
        test.run(33, test::never);
        test.run(34, test::parts);
        test.run(35, test::finds);
        test.run(36, test::left);
        test.run(37, test::forged);
        test.run(38, test::beside);
        test.run(39, test::habit);
        test.run(40, test::order);
        test.run(41, test::byAge);
        test.run(42, test::lots);
        test.run(43, test::asked);
        test.run(44, test::upper);
        test.run(45, test::lower);
        test.run(46, test::count);
        test.run(47, test::finding);
        test.run(48, test::findings);
        test.run(49, test::digest);
        due.end();
    }

    private void run(int promise, Runnable checks) {
        begin("promise " + promise);
        checks.run();
    }

    private void newObject() {
        for (int what = 0; what <= 8; what++) {
            due(x.count(what), 0);
        }
        for (int r = 0; r < 6; r++) {
            found(x.tear(r), NOTHING);
        }
        for (int t = 0; t < 4; t++) {
            found(x.fault(t), NOTHING);
        }
        due(x.card(0, 0), BAD);
        due(x.question(0, 0), BAD);
    }

    private void row() {
        due(x.row(0, 3), 3);
        x.lay(0, 2, 9);
        due(x.row(0, 3), 3);
        dueRow(0, 0, 0, 0);
        due(x.row(5, 40), 40);
        due(x.at(5, 39), 1, 0);
        due(x.row(5, 0), 0);
        found(x.at(5, 0), BEYOND);
        due(x.row(0, 41), BAD);
        due(x.row(6, 1), BAD);
        due(x.row(-1, 1), BAD);
        due(x.row(6, -1), BAD);
        found(x.row(0, -1), SIZE);
        found(x.row(0, LEAST), SIZE);
        dueRow(0, 0, 0, 0);
    }

    private void lay() {
        due(x.lay(6, 0, 1), BAD);
        due(x.lay(-1, 0, 1), BAD);
        found(x.lay(1, 0, 1), NOTHING);
        x.row(1, 2);
        due(x.lay(1, 1, 7), 1, 0);
        due(x.lay(1, 1, -8), 1, 7);
        due(x.lay(1, 1, MOST), 1, -8);
        found(x.lay(1, 2, 1), BEYOND);
        found(x.lay(1, -1, 1), BEYOND);
        due(x.asked(), -8);
        dueRow(1, 0, MOST);
    }

    private void at() {
        due(x.at(6, 0), BAD);
        due(x.at(-1, 0), BAD);
        found(x.at(2, 0), NOTHING);
        lays(2, 5, 6);
        due(x.at(2, 0), 1, 5);
        due(x.at(2, 1), 1, 6);
        found(x.at(2, 2), BEYOND);
        found(x.at(2, -1), BEYOND);
        found(x.at(2, MOST), BEYOND);
        due(x.asked(), 6);
    }

    private void tear() {
        due(x.tear(6), BAD);
        due(x.tear(-1), BAD);
        found(x.tear(0), NOTHING);
        x.row(0, 0);
        due(x.tear(0), 1);
        found(x.tear(0), NOTHING);
        found(x.at(0, 0), NOTHING);
        due(x.count(6), 0);
    }

    private void copy() {
        lays(0, 1, 2, 3, 4);
        lays(1, 9, 8);
        due(x.copy(0, 0, 1, 0, 2), 1);
        dueRow(1, 1, 2);
        due(x.copy(0, 0, 0, 1, 3), 1);
        dueRow(0, 1, 1, 2, 3);
        lays(0, 1, 2, 3, 4);
        due(x.copy(0, 1, 0, 0, 3), 1);
        dueRow(0, 2, 3, 4, 4);
        due(x.copy(0, 4, 1, 2, 0), 1);
        found(x.copy(0, 5, 1, 0, 0), BEYOND);
        found(x.copy(0, 0, 1, 3, 0), BEYOND);
        found(x.copy(0, 0, 1, 0, 3), BEYOND);
        found(x.copy(1, 0, 0, 0, 3), BEYOND);
        found(x.copy(0, -1, 1, 0, 1), BEYOND);
        found(x.copy(0, 3, 1, 0, 2), BEYOND);
        found(x.copy(0, 0, 1, 1, 2), BEYOND);
        found(x.copy(0, 0, 1, -1, 1), BEYOND);
        found(x.copy(0, MOST, 1, 0, MOST), BEYOND);
        found(x.copy(0, 0, 1, 0, MOST), BEYOND);
        found(x.copy(0, 0, 5, 0, -1), SIZE);
        found(x.copy(0, 99, 5, 0, 1), NOTHING);
        found(x.copy(5, 99, 0, 0, 1), NOTHING);
        due(x.copy(6, 0, 0, 0, -1), BAD);
        due(x.copy(0, 0, 6, 0, -1), BAD);
        due(x.copy(-1, 0, 0, 0, 1), BAD);
        due(x.copy(0, 0, -1, 0, 1), BAD);
        dueRow(0, 2, 3, 4, 4);
        dueRow(1, 1, 2);
    }

    private void mean() {
        due(x.mean(6), BAD);
        due(x.mean(-1), BAD);
        found(x.mean(0), NOTHING);
        x.row(0, 0);
        found(x.mean(0), NOUGHT);
        lays(0, 1, 2, 2);
        due(x.mean(0), 1, 1);
        lays(0, -1, -2, -2);
        due(x.mean(0), 1, -1);
        lays(0, MOST, MOST);
        due(x.mean(0), 1, MOST);
        lays(0, LEAST, LEAST, LEAST);
        due(x.mean(0), 1, LEAST);
    }

    private void text() {
        due(x.text(0, 3), 3);
        due(x.put(0, 2, 65), 1032);
        due(x.text(0, 3), 3);
        due(x.put(0, 2, 65), 1032);
        due(x.text(3, 80), 80);
        due(x.put(3, 79, 1), 1032);
        due(x.text(0, 81), BAD);
        due(x.text(4, 1), BAD);
        due(x.text(-1, 1), BAD);
        due(x.text(4, -1), BAD);
        found(x.text(0, -1), SIZE);
        due(x.put(0, 2, 65), 1065);
    }

    private void put() {
        due(x.put(4, 0, 1), BAD);
        due(x.put(-1, 0, 1), BAD);
        found(x.put(0, 0, 1), NOTHING);
        x.text(0, 2);
        found(x.put(0, 2, 1), BEYOND);
        found(x.put(0, -1, 1), BEYOND);
        due(x.put(0, 0, 255), 1032);
        due(x.put(0, 0, 128), 999);
        due(x.put(0, 0, 256 + 'n'), 872);
        due(x.put(0, 0, 0), 1110);
        due(x.put(0, 0, -1), 1000);
        due(x.put(0, 1, 1), 1032);
    }

    private void fault() {
        due(x.fault(4), BAD);
        due(x.fault(-1), BAD);
        found(x.fault(0), NOTHING);
        dueFault("", 0);
        dueFault("  ", 2);
        dueFault("n000", NONE);
        dueFault("  n939  b000y539 q0001q5999  ", NONE);
        dueFault("n0", 2);
        dueFault("n00", 3);
        dueFault("n", 1);
        dueFault(" x000", 1);
        dueFault("N000", 0);
        dueFault("n 000", 1);
        dueFault("n0400", 2);
        dueFault("n03a", 3);
        dueFault("n00:", 3);
        dueFault("n00/", 3);
        dueFault("q0001", 0);
        dueFault(" q0001 n000", 1);
        dueFault("n000 q0001 n000", 11);
        dueFault("n000q6001", 5);
        dueFault("n000q0541", 7);
        dueFault("n000q0441", NONE);
        dueFault("n000q0000", 8);
        dueFault("n000q000", 8);
        dueFault("n000q00", 7);
        dueFault("n000q0", 6);
        dueFault("n000q", 5);
        dueFault("n000q0 01", 6);
        dueFault("n000qa001", 5);
        dueFault("n000q0a01", 6);
        dueFault("n000n000n000n000n000n000n000", NONE);
        dueFault("n000n000n000n000n000n000n000 n000", 29);
        dueFault("n000q0001q0001q0001q0001q0001q0001q0001", NONE);
        dueFault("n000q0001q0001q0001q0001q0001q0001q0001 q0001", 40);
        dueFault(ALL, NONE);
        write(3, "n000");
        x.put(3, 0, 256 + 'n');
        due(x.fault(3), NONE);
        x.put(3, 0, 'n' - 128);
        due(x.fault(3), 0);
    }

    private void library() {
        due(x.library(4), BAD);
        due(x.library(-1), BAD);
        found(x.library(0), NOTHING);
        x.text(0, 4);
        due(x.library(0), STATE);
        write(1, ALL);
        due(x.library(1), 7);
        due(x.count(1), 7);
        x.take(0, 0);
        x.truth(0, 7);
        x.keep(0);
        x.keep(2);
        write(1, "n1");
        due(x.library(1), STATE);
        due(x.fault(1), 2);
        due(x.count(0), 7);
        due(x.count(2), 1);
        due(x.count(8), 2);
        due(x.question(0, 4), 1, 7);
        write(1, "n702 y609 q0393");
        due(x.library(1), 2);
        due(x.count(1), 1);
        due(x.count(2), 0);
        due(x.count(8), 0);
        due(x.question(0, 4), 1, NONE);
        due(x.question(0, 5), 1, NONE);
        due(x.card(0, 5), 1, NONE);
        found(x.on(0), NOTHING);
        due(x.card(2, 0), BAD);
    }

    private void card() {
        read(ALL);
        int[][] facts = {{0, 7, 7, 0, 2}, {1, 6, 1, 0, 9}, {2, 3, 3, 1, 4}, {3, 9, 0, 0, 5},
            {4, 8, 5, 3, 7}, {5, 9, 0, 1, 1}, {0, 4, 4, 2, 0}};
        for (int c = 0; c < 7; c++) {
            for (int what = 0; what < 5; what++) {
                due(x.card(c, what), 1, facts[c][what]);
            }
            due(x.card(c, 5), 1, NONE);
        }
        x.take(5, 6);
        due(x.card(6, 5), 1, 5);
        due(x.card(0, 6), BAD);
        due(x.card(0, -1), BAD);
        due(x.card(7, 0), BAD);
        due(x.card(-1, 0), BAD);
        due(x.asked(), 5);
        read("y500 y400 b800 t900 t901 t119 t910");
        int[] meanings = {1, 0, 9, 9, 0, 0, 9};
        for (int c = 0; c < 7; c++) {
            due(x.card(c, 2), 1, meanings[c]);
        }
    }

    private void question() {
        read(ALL);
        due(x.question(0, 0), 1, 0);
        due(x.question(0, 1), 1, 3);
        due(x.question(0, 2), 1, 9);
        due(x.question(0, 3), 1, 3);
        due(x.question(0, 4), 1, NONE);
        due(x.question(0, 5), 1, NONE);
        due(x.question(6, 0), 1, 3);
        due(x.question(6, 3), 1, 5);
        x.truth(6, 4);
        x.take(6, 3);
        due(x.question(6, 4), 1, 4);
        due(x.question(6, 5), 1, 3);
        due(x.question(6, 6), BAD);
        due(x.question(6, -1), BAD);
        due(x.question(7, 0), BAD);
        due(x.question(-1, 0), BAD);
        due(x.asked(), 3);
    }

    private void mark() {
        // MEANING 1 0 0 3 4 9 7, on SHELVES 0 1 1 1 2 1 3
        read("y900 y110 v910 p310 p420 b810 t839 q1011 q3002 q0003 q1111");
        due(x.card(6, 2), 1, 7);
        x.age(6, 5);
        due(x.card(6, 2), 1, 3);
        due(x.mark(0, 1), 1);
        due(x.mark(1, 1), 2);
        due(x.mark(2, 1), 2);
        due(x.mark(3, 2), 3);
        due(x.mark(4, 2), 0);
        due(x.mark(5, 2), 3);
        due(x.mark(2, 3), 3);
        due(x.mark(6, 4), 5);
        due(x.mark(5, 5), 0);
        found(x.mark(0, 3), UNLIKE);
        found(x.mark(0, 2), UNLIKE);
        found(x.mark(3, 5), UNLIKE);
        found(x.mark(6, 1), UNLIKE);
        found(x.mark(5, 4), UNLIKE);
        due(x.mark(0, 0), BAD);
        due(x.mark(0, 6), BAD);
        due(x.mark(0, -1), BAD);
        due(x.mark(7, 1), BAD);
        due(x.mark(-1, 1), BAD);
        // a BEHIND that MEANS 4: PLACES that SAY it, NUMBERS not
        read("b300 p400 b400 n400 p300 t125");
        due(x.mark(0, 5), 2);
        due(x.mark(2, 5), 0);
        due(x.mark(5, 4), 15);
        due(x.mark(0, 2), 4);
        read("p400 b300");
        due(x.mark(1, 5), 1);
        due(x.count(5), 2);
    }

    private void shelve() {
        read(ALL);
        due(x.shelve(4, 0), 3);
        due(x.shelve(4, 2), 0);
        due(x.card(4, 3), 1, 2);
        due(x.shelve(4, 4), BAD);
        due(x.shelve(4, -1), BAD);
        due(x.shelve(7, 0), BAD);
        due(x.shelve(-1, 0), BAD);
        due(x.card(4, 3), 1, 2);
    }

    private void age() {
        read(ALL);
        due(x.age(4, 0), 7);
        due(x.card(4, 2), 1, 8);
        due(x.age(4, 9), 0);
        due(x.card(4, 2), 1, 7);
        due(x.card(4, 4), 1, 9);
        due(x.age(4, 10), BAD);
        due(x.age(4, -1), BAD);
        due(x.age(7, 0), BAD);
        due(x.age(-1, 0), BAD);
        due(x.age(0, 3), 2);
        due(x.card(0, 2), 1, 7);
    }

    private void truth() {
        read(ALL);
        due(x.truth(0, 9), NONE);
        due(x.truth(0, 0), 9);
        due(x.truth(0, NONE), 0);
        due(x.truth(0, NONE), NONE);
        due(x.truth(0, 10), BAD);
        due(x.truth(0, -1), BAD);
        due(x.truth(0, -8), BAD);
        due(x.truth(7, 0), BAD);
        due(x.truth(-1, 0), BAD);
        due(x.question(0, 4), 1, NONE);
    }

    private void fits() {
        read(ALL);
        int[] bits = {85, 10, 36, 32, 16, 81, 8};
        for (int q = 0; q < 7; q++) {
            due(x.fits(q), bits[q]);
        }
        x.take(0, 0);
        x.truth(0, 3);
        due(x.fits(0), 85);
        x.age(4, 2);
        due(x.fits(0), 69);
        due(x.fits(7), BAD);
        due(x.fits(-1), BAD);
    }

    private void take() {
        read(ALL);
        due(x.take(7, 0), BAD);
        due(x.take(0, 7), BAD);
        due(x.take(-1, 0), BAD);
        due(x.take(0, -1), BAD);
        due(x.take(0, 1), STATE);
        due(x.take(0, 0), 2);
        due(x.take(0, 2), STATE);
        due(x.take(5, 0), STATE);
        x.truth(5, 5);
        due(x.take(5, 4), 1);
        x.truth(1, 0);
        due(x.take(1, 1), 0);
        due(x.count(2), 3);
        due(x.card(1, 5), 1, 1);
        due(x.question(1, 5), 1, 1);
        x.bring(0);
        for (int n = 3; n < 40; n++) {
            due(x.take(0, 0), 2);
            x.bring(0);
        }
        due(x.take(0, 1), STATE);
        due(x.take(0, 0), FULL);
        due(x.count(2), 40);
        due(x.card(0, 5), 1, NONE);
        x.undo(39);
        due(x.take(0, 0), 2);
    }

    private void bring() {
        read(ALL);
        due(x.bring(0), STATE);
        due(x.bring(7), BAD);
        due(x.bring(-1), BAD);
        x.take(0, 2);
        due(x.bring(0), 2);
        due(x.bring(0), STATE);
        due(x.count(2), 1);
        due(x.count(3), 7);
        due(x.card(2, 5), 1, NONE);
        due(x.take(2, 2), 2);
    }

    private void undo() {
        due(x.undo(0), 0);
        due(x.undo(1), BAD);
        due(x.undo(-1), BAD);
        read(ALL);
        x.take(0, 0);
        x.take(1, 1);
        x.bring(0);
        x.take(0, 2);
        x.truth(0, 3);
        x.shelve(0, 3);
        x.age(4, 1);
        due(x.undo(4), BAD);
        due(x.undo(3), 0);
        due(x.undo(2), 1);
        due(x.question(0, 5), 1, NONE);
        due(x.question(1, 5), 1, 1);
        due(x.undo(1), 1);
        due(x.question(0, 5), 1, 0);
        due(x.question(1, 5), 1, NONE);
        due(x.question(0, 4), 1, 3);
        due(x.card(0, 3), 1, 3);
        due(x.card(4, 4), 1, 1);
        x.bring(0);
        due(x.undo(1), 0);
        due(x.question(0, 5), 1, NONE);
        x.take(1, 1);
        due(x.undo(0), 2);
        due(x.count(2), 0);
        due(x.count(3), 7);
    }

    private void right() {
        due(x.right(), 0, 0);
        read(ALL);
        x.truth(0, 7);
        due(x.right(), 0, 0);
        x.take(0, 0);
        due(x.right(), 1, 0);
        x.take(1, 1);
        x.take(5, 4);
        due(x.right(), 1, 0);
        x.truth(1, 0);
        x.truth(5, 5);
        due(x.right(), 2, 1);
        x.age(4, 8);
        due(x.right(), 1, 2);
        x.bring(5);
        due(x.right(), 1, 1);
    }

    private void keep() {
        due(x.keep(0), STATE);
        due(x.keep(3), BAD);
        due(x.keep(-1), BAD);
        read(ALL);
        due(x.keep(0), 0);
        x.take(0, 0);
        due(x.keep(2), 1);
        due(x.count(8), 2);
        due(x.keep(2), 1);
        due(x.count(8), 2);
    }

    private void on() {
        due(x.on(3), BAD);
        due(x.on(-1), BAD);
        found(x.on(0), NOTHING);
        read(ALL);
        x.keep(1);
        x.take(0, 0);
        x.bring(0);
        x.take(1, 1);
        x.truth(0, 7);
        x.shelve(0, 3);
        x.age(4, 1);
        x.keep(0);
        long there = x.digest();
        due(x.on(1), 0);
        due(x.count(3), 7);
        due(x.question(0, 4), 1, NONE);
        due(x.card(0, 3), 1, 0);
        due(x.card(4, 4), 1, 7);
        x.take(2, 2);
        due(x.on(0), 2);
        due(x.digest(), there);
        due(x.undo(1), 1);
        due(x.card(0, 5), 1, NONE);
        due(x.on(0), 2);
        due(x.digest(), there);
        found(x.on(2), NOTHING);
        // what answered what ahead of late TAKINGS is kept, too
        x.undo(0);
        x.take(1, 1);
        for (int n = 1; n < 40; n++) {
            x.take(0, 0);
            x.bring(0);
        }
        x.keep(2);
        x.undo(0);
        for (int n = 0; n < 40; n++) {
            due(x.take(5, 6), 2);
            x.bring(5);
        }
        due(x.on(2), 40);
        due(x.undo(39), 1);
        due(x.question(1, 5), 1, 1);
        due(x.count(3), 6);
    }

    private void match() {
        due(x.match(6), BAD);
        due(x.match(-1), BAD);
        due(x.match(0), 0);
        dueRow(0);
        read(ALL);
        x.row(1, 40);
        due(x.match(1), 7);
        dueRow(1, 0, 1, 2, 5, 4, 6, 3);
        x.take(0, 6);
        due(x.match(1), 6);
        dueRow(1, NONE, 1, 2, 5, 4, 0, 3);
        x.truth(1, 0);
        due(x.match(1), 5);
        dueRow(1, NONE, 3, 2, 5, 4, 0, NONE);
        // NONE comes behind all CARDS, and the first QUESTIONS come first
        read("n500 q0991 q0551 q0551");
        due(x.match(2), 1);
        dueRow(2, NONE, 0, NONE);
        // the first by QUESTIONS is none that loses a pair
        read("n500 p500 q0551 q2551");
        due(x.match(2), 2);
        dueRow(2, 0, 1);
        read("p500 n500 q0551 q2551");
        due(x.match(2), 2);
        dueRow(2, 1, 0);
    }

    private void wished() {
        due(x.wished(6), BAD);
        due(x.wished(-1), BAD);
        due(x.wished(0), 0);
        dueRow(0);
        read(ALL);
        due(x.wished(1), 31);
        dueRow(1, 0, 1, 2, 5, 4, 6, 3);
        x.take(6, 3);
        due(x.wished(1), 26);
        dueRow(1, 0, 1, 2, 5, 4, 6, NONE);
        // one CARD: to the one that is wished most, the first of alike ones
        read("n500 q0552 q0553 q0553");
        due(x.wished(1), 3);
        dueRow(1, NONE, 0, NONE);
        read("n500 p500 q0559 q2551 q2552");
        due(x.wished(1), 11);
        dueRow(1, 0, NONE, 1);
        x.truth(0, 4);
        due(x.wished(1), 2);
        dueRow(1, NONE, NONE, 1);
    }

    private void fullest() {
        due(x.fullest(), 1, 0);
        read(ALL);
        due(x.fullest(), 2, 5);
        x.truth(0, 7);
        due(x.fullest(), 1, 7);
        read("n100 n100 n100 n100 n100 n100 n100 q0001 q0191 q0191 q0191 q0191 q0191 q0191");
        due(x.fullest(), 5040, 0);
        x.take(1, 3);
        due(x.fullest(), 720, 0);
        read("n100n100n100n100n100n100n100q0191q0191q0191q0191q0191q0191q0191");
        due(x.fullest(), 5040, 0);
        read("n500 p500 q0551 q2551 q0001");
        due(x.fullest(), 1, 2);
    }

    private void may() {
        due(x.may(0), BAD);
        read(ALL);
        int[] bits = {33, 2, 4, 64, 16, 8, 33};
        for (int c = 0; c < 7; c++) {
            due(x.may(c), bits[c]);
        }
        x.take(0, 0);
        due(x.may(0), 0);
        due(x.may(6), 32);
        due(x.may(7), BAD);
        due(x.may(-1), BAD);
    }

    private void sure() {
        due(x.sure(0), BAD);
        read(ALL);
        int[] cards = {NONE, 1, 2, 5, 4, NONE, 3};
        for (int q = 0; q < 7; q++) {
            due(x.sure(q), cards[q]);
        }
        x.take(0, 0);
        due(x.sure(0), NONE);
        due(x.sure(5), 6);
        due(x.sure(7), BAD);
        due(x.sure(-1), BAD);
    }

    private void test() {
        due(x.test(), NONE, 0);
        read(ALL);
        due(x.test(), 0, 1);
        x.truth(0, 4);
        x.card(0, 0);
        due(x.test(), NONE, 0);
        // three CARDS for a QUESTION: one of three is tested, two are left at worst
        read("n500 n500 n500 q0001 q0551");
        due(x.test(), 10, 2);
        // of 4 MATCHINGS (0-0, 1-1 or 2; 0-1, 1-2; 0-2, 1-1) halves are best: the pair of 0 and 0
        read("n300 n400 n500 q0351 q0451");
        due(x.fullest(), 4, 0);
        due(x.test(), 0, 2);
        // 0 has CARD 1 or 2, 1 has CARD 0: the first pair that is not in all is 0 with 1
        read("n300 n500 n500 q0551 q0331");
        due(x.test(), 1, 1);
        read("n900 n500 n500 q0001 q0991 q0551");
        due(x.test(), 21, 1);
    }

    private void odds() {
        due(x.odds(0, 0), BAD);
        read(ALL);
        due(x.odds(0, 0), 1);
        due(x.upper(), 1);
        due(x.lower(), 2);
        due(x.odds(6, 3), 1);
        due(x.upper(), 1);
        due(x.lower(), 1);
        due(x.odds(0, 1), 1);
        due(x.upper(), 0);
        due(x.lower(), 1);
        due(x.odds(0, 6), 1);
        due(x.odds(7, 0), BAD);
        due(x.odds(0, 7), BAD);
        due(x.odds(-1, 0), BAD);
        due(x.odds(0, -1), BAD);
        due(x.upper(), 1);
        due(x.lower(), 2);
        x.take(0, 0);
        due(x.odds(0, 0), 1);
        due(x.upper(), 0);
        due(x.lower(), 1);
        read("n300 n400 n500 q0351 q0451");
        due(x.odds(0, 1), 1);
        due(x.upper(), 1);
        due(x.lower(), 4);
        due(x.odds(1, 0), 1);
        due(x.upper(), 0);
        due(x.lower(), 1);
        read("n500 n500 n500 q0551 q0551");
        due(x.odds(1, 2), 1);
        due(x.upper(), 1);
        due(x.lower(), 3);
    }

    private void worlds() {
        due(x.worlds(), 1);
        read(ALL);
        due(x.worlds(), 4200);
        x.truth(0, 9);
        due(x.worlds(), 600);
        x.take(0, 0);
        due(x.worlds(), 0);
        x.truth(0, 7);
        due(x.worlds(), 600);
        x.truth(0, NONE);
        due(x.worlds(), 600);
        x.take(5, 4);
        due(x.worlds(), 120);
        x.age(4, 9);
        due(x.worlds(), 120);
        x.age(4, 1);
        due(x.worlds(), 0);
        x.truth(5, 9);
        due(x.worlds(), 120);
        read("n000 q0091 q0091 q0091 q0091 q0091 q0091 q0091");
        due(x.worlds(), 10000000);
        read("n400 n600 q0461 q0461 q0461");
        x.take(0, 0);
        x.take(1, 1);
        due(x.worlds(), 3);
    }

    private void never() {
        due(x.never(), 0);
        read(ALL);
        due(x.never(), 0);
        x.truth(0, 6);
        due(x.never(), 1);
        x.truth(0, 7);
        due(x.never(), 0);
        x.truth(1, 9);
        due(x.never(), 2);
        x.take(0, 0);
        due(x.never(), 2);
        read("n500 q0001 q0551 q1091 q0661");
        due(x.never(), 13);
        // no CARD FITS, though one MEANS it
        x.truth(0, 5);
        due(x.never(), 13);
    }

    private void parts() {
        due(x.parts(), STATE, 0);
        read("n500");
        due(x.parts(), 0, 0);
        read("n500 n600");
        due(x.parts(), 55, 1);
        read("n500 n500 n600 n600 n700 n800");
        due(x.parts(), 67, 3);
        // of as near ones the narrower, then the lower KIND
        read("n100 n200 n300 n300");
        due(x.parts(), 33, 2);
        read("n100 n100 y900 v000");
        due(x.parts(), 101, 2);
        read("n100 n100 y900 y900");
        due(x.parts(), 111, 2);
        read("p300 p300 t300 t300 n300");
        due(x.parts(), 233, 2);
        x.take(0, 0);
        due(x.parts(), 233, 2);
    }

    private void finds() {
        due(x.finds(1), BAD);
        due(x.finds(0), BAD);
        read(ALL);
        due(x.finds(0), BAD);
        due(x.finds(128), BAD);
        due(x.finds(129), BAD);
        due(x.finds(-1), BAD);
        due(x.finds(LEAST), BAD);
        due(x.finds(9), 1, 0);
        due(x.finds(127), NONE, 0);
        due(x.finds(64), 0, NONE);
        due(x.finds(1), 0, NONE);
        due(x.finds(65), NONE, NONE);
        due(x.finds(10), 1, 6);
        // two QUESTIONS part four CARDS only by halves: the first one of them is the second
        read("n000 n100 n200 n300 q0001 q0011 q0021 q0121");
        due(x.finds(15), 2, 1);
        due(x.finds(7), 2, 0);
        due(x.finds(12), 1, 2);
        due(x.finds(6), 1, 1);
        read("n000 n100 n200 n300 n400 q0001 q0111 q0221 q0331");
        due(x.finds(31), 4, 0);
        due(x.finds(30), 3, 1);
    }

    private void left() {
        due(x.left(6), BAD);
        due(x.left(-1), BAD);
        found(x.left(0), NOTHING);
        x.row(0, 0);
        due(x.left(0), 0);
        read(ALL);
        due(x.left(0), 127);
        lays(0, 0, 1);
        due(x.left(0), 85);
        lays(0, 0, 0);
        due(x.left(0), 42);
        lays(0, 0, 1, 5, 0);
        due(x.left(0), 4);
        lays(0, 0, 1, 0, 0);
        due(x.left(0), 0);
        x.take(0, 0);
        lays(0, 5, 1);
        due(x.left(0), 81);
        lays(0, 7, 1, 0);
        found(x.left(0), SIZE);
        lays(0, 7, 1);
        found(x.left(0), UNLIKE);
        lays(0, -1, 1);
        found(x.left(0), UNLIKE);
        lays(0, 0, 1, 0, 2);
        found(x.left(0), UNLIKE);
        lays(0, 0, -1);
        found(x.left(0), UNLIKE);
    }

    private void forged() {
        due(x.forged(), NONE, 0);
        read(ALL);
        due(x.forged(), 4, 3);
        x.age(4, 1);
        due(x.forged(), 0, 2);
        read("n100 n200 q0001");
        due(x.forged(), 0, 0);
        x.tear(0);
        read("n100 n200 q0221");
        due(x.forged(), 1, 1);
    }

    private void beside() {
        due(x.beside(6), BAD);
        due(x.beside(-1), BAD);
        found(x.beside(0), NOTHING);
        lays(0, 0, 59);
        due(x.beside(0), 0, 0);
        read(ALL);
        lays(0, 7, 11, 23, 30, 45, 50, 4);
        due(x.beside(0), 7, 0);
        lays(0, 7, 7, 17, 50, 0, 10);
        due(x.beside(0), 2, 1);
        lays(0, 27, 7);
        due(x.beside(0), 1, 0);
        lays(0, 27, 13, 59);
        due(x.beside(0), 0, 2);
        x.row(0, 8);
        found(x.beside(0), SIZE);
        lays(0, 60);
        found(x.beside(0), UNLIKE);
        lays(0, 1, -1);
        found(x.beside(0), UNLIKE);
        lays(0, -1, 0, 0, 0, 0, 0, 0, 0);
        found(x.beside(0), SIZE);
        due(x.asked(), 0);
    }

    private void habit() {
        due(x.habit(), 0, 0);
        read("n000 n010 n010 y020 v030 p020 p010");
        due(x.habit(), 5, 1 + 32);
        x.shelve(1, 0);
        due(x.habit(), 5, 4 + 32);
        x.shelve(3, 3);
        due(x.habit(), 5, 4 + 32);
    }

    private void order() {
        due(x.order(), 0);
        read("n000 y000 p000 v000 t000");
        due(x.order(), NONE);
        read("n000 y000 p000 v000");
        due(x.order(), 3);
        read("n000 n010 n020 n030");
        due(x.order(), 0);
        read("n000 n010 n020 n030 y000");
        due(x.order(), 1);
        x.shelve(4, 3);
        due(x.order(), 1);
        read("n000 y010 n000 y000 n010");
        due(x.order(), 2);
        x.shelve(3, 2);
        due(x.order(), 1);
        read("y000 p010 v020 t030");
        due(x.order(), 0);
        // the only SHELF without two NUMBERS costs two
        read("n000 n000 n010 n020 n030 y000");
        due(x.order(), 2);
        // a PLACE and a BEHIND are not of one KIND here
        read("p000 b000");
        due(x.order(), 1);
    }

    private void byAge() {
        due(x.byAge(6), BAD);
        due(x.byAge(-1), BAD);
        due(x.byAge(0), 0);
        dueRow(0);
        read(ALL);
        x.row(1, 40);
        due(x.byAge(1), 7);
        dueRow(1, 1, 4, 3, 2, 0, 5, 6);
        x.age(6, 5);
        due(x.byAge(1), 7);
        dueRow(1, 1, 4, 3, 6, 2, 0, 5);
    }

    private void lots() {
        due(x.lots(0, 1), BAD);
        due(x.lots(21, 1), BAD);
        due(x.lots(-1, 1), BAD);
        due(x.lots(1, 0), BAD);
        due(x.lots(1, -1), BAD);
        due(x.lots(1, MOST), BAD);
        due(x.lots(1, 1), STATE);
        read("n500");
        due(x.lots(20, 2147483646), STATE);
        read("n500 n600 n700 q0591 q0591 q0991");
        // 48271: QUESTION 1; by 64 it is 754: CARD 754 modulo 3 is 1
        due(x.lots(1, 1), 1);
        due(x.question(1, 5), 1, 1);
        x.undo(0);
        // 182605794 behind it: QUESTION 0; by 64 it is 2853215: modulo 2 it is the second that is FREE
        due(x.lots(2, 1), 2);
        due(x.question(1, 5), 1, 1);
        due(x.question(0, 5), 1, 2);
        due(x.count(2), 2);
        due(x.lots(20, 1), 0);
        due(x.lots(20, 7), 0);
        for (int n = 2; n < 21; n++) {
            x.bring(0);
            x.take(0, 0);
        }
        due(x.count(2), 21);
        due(x.lots(20, 1), FULL);
        due(x.lots(19, 1), 0);
        due(x.lots(21, 1), BAD);
    }

    private void asked() {
        due(x.asked(), 0);
        lays(0, 4);
        due(x.at(0, 0), 1, 4);
        due(x.at(0, 1), FINDING, 4);
        due(x.test(), NONE, 4);
        due(x.forged(), NONE, 4);
        due(x.parts(), STATE, 4);
        due(x.order(), 0, 4);
        due(x.byAge(0), 0, 4);
        due(x.worlds(), 1, 4);
        due(x.match(0), 0, 4);
        due(x.right(), 0, 0);
    }

    private void upper() {
        due(x.upper(), 0);
        read("n500 n500 n500 q0551");
        x.odds(0, 1);
        due(x.upper(), 1);
        x.odds(0, 3);
        due(x.upper(), 1);
    }

    private void lower() {
        due(x.lower(), 1);
        read("n500 n500 n500 q0551");
        x.odds(0, 1);
        due(x.lower(), 3);
        x.odds(1, 0);
        due(x.lower(), 3);
    }

    private void count() {
        due(x.count(9), BAD);
        due(x.count(-1), BAD);
        read(ALL);
        x.row(4, 0);
        x.row(5, 1);
        x.text(2, 0);
        x.take(0, 0);
        x.take(1, 1);
        x.bring(1);
        x.keep(0);
        int[] counts = {7, 7, 2, 6, 6, 2, 2, 2, 1};
        for (int what = 0; what <= 8; what++) {
            due(x.count(what), counts[what]);
        }
    }

    private void finding() {
        due(x.finding(), 0);
        x.row(0, -1);
        due(x.finding(), SIZE);
        x.at(0, 0);
        due(x.finding(), NOTHING);
        x.row(0, 0);
        x.mean(0);
        due(x.finding(), NOUGHT);
        x.at(6, 0);
        due(x.finding(), NOUGHT);
    }

    private void findings() {
        due(x.findings(0), BAD);
        due(x.findings(6), BAD);
        due(x.findings(-1), BAD);
        for (int f = 1; f <= 5; f++) {
            due(x.findings(f), 0);
        }
        x.at(0, 0);
        x.at(0, 0);
        x.row(0, 0);
        x.at(0, 0);
        x.mean(0);
        x.mean(6);
        int[] often = {2, 1, 0, 1, 0};
        for (int f = 1; f <= 5; f++) {
            due(x.findings(f), often[f - 1]);
        }
    }

    private void digest() {
        long h = 17;
        for (int n = 0; n < 9; n++) {
            h = 31 * h;
        }
        for (int n = 0; n < 13; n++) {
            h = 31 * h - 1;
        }
        due(x.digest(), h);
        lays(1, 5);
        x.text(3, 1);
        x.put(3, 0, 200);
        write(0, "n512 q0391");
        x.library(0);
        x.truth(0, 4);
        x.take(0, 0);
        x.keep(1);
        h = 17;
        int[] state = {1, 1, 1, 0, 0, 0, 1, 2, 1, 0, 5, 5, 1, 2, 0, 0, 3, 9, 1, 4, 0, 0, -1, 1, -1,
            -1, 1, 5, -1, -1, -1, -1, 10, 'n', '5', '1', '2', ' ', 'q', '0', '3', '9', '1', -1, -1, 1, -56};
        for (int v : state) {
            h = 31 * h + v;
        }
        due(x.digest(), h);
        due(x.asked(), 0);
        read("n500 n600 q0091 q0091");
        x.take(1, 0);
        x.take(0, 1);
        x.bring(0);
        long other = x.digest();
        x.undo(1);
        x.take(0, 1);
        due(x.digest() == other ? 1 : 0, 0);
        x.bring(0);
        due(x.digest(), other);
        h = 17;
        int[] now = {2, 2, 2, 1, 1, 0, 1, 2, 0, 0, 5, 5, 0, 0, 1, 0, 6, 6, 0, 0, -9,
            0, 0, 9, 1, -9, -9, 0, 0, 9, 1, -9, 0, 10, 1, -1, -1, -1, -1, 1, 5, -1, -1, -1, -1, 21};
        for (int v : now) {
            h = 31 * h + v;
        }
        for (char sign : "n500 n600 q0091 q0091".toCharArray()) {
            h = 31 * h + sign;
        }
        for (int v : new int[] {-1, -1, 1, -56}) {
            h = 31 * h + v;
        }
        due(x.digest(), h);
    }
}
