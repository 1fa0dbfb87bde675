/** Counts answers that are not the ones that are due, and tells each of them. */
final class Due {
    private static final int TOLD_MOST = 40;

    private int checks = 0;
    private int wrong = 0;

    void is(String call, long got, long want) {
        checks++;
        if (got != want) {
            wrong++;
            if (wrong <= TOLD_MOST) {
                System.out.println(call + " answered " + got + ", due is " + want);
            }
        }
    }

    void holds(String what, boolean so) {
        is(what, so ? 1 : 0, 1);
    }

    boolean isAllRight() {
        return wrong == 0;
    }

    /** Exit code 1, if an answer was wrong, or none was looked at. */
    void end() {
        System.out.println(checks + " answers, " + wrong + " of them wrong");
        if (wrong != 0 || checks == 0) {
            System.exit(1);
        }
    }
}
