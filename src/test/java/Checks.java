/** Counts the answers that are not as due, and ends a test with exit code 1 if there was one. */
final class Checks {
    private int seen = 0;
    private int wrong = 0;

    void due(String call, int got, int want) {
        seen++;
        if (got != want) {
            wrong++;
            System.out.println(call + " answered " + got + ", due is " + want);
        }
    }

    void holds(String what, boolean truth) {
        seen++;
        if (!truth) {
            wrong++;
            System.out.println("not so: " + what);
        }
    }

    int wrongAnswers() {
        return wrong;
    }

    void end() {
        System.out.println(seen + " checks, " + wrong + " wrong");
        if (wrong != 0 || seen == 0) {
            System.exit(1);
        }
    }

    /** Fills the row with these numbers alone. */
    static void row(MouldMatcher x, int... spacings) {
        x.clearRow();
        for (int spacing : spacings) {
            x.addToRow(spacing);
        }
    }
}
