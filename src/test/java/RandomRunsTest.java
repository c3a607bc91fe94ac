import java.util.Random;

/** Random runs of at most 512 calls, the same ones each time, beside the reference. */
public final class RandomRunsTest {
    private static final int RUNS = 240;
    private static final int CALLS = 512;
    private static final int[] WRONG = {-1, -2, -7, 10, 30, 31, 1001, 9999, 10000, 65536,
        Integer.MAX_VALUE, Integer.MIN_VALUE};
    private static final String[] CHANGES = {"addState", "addState", "addState", "removeState",
        "setTolerances", "setDates", "setDates", "setDates", "setDates"};
    private static final String[] QUESTIONS = {"stateCount", "areTwins", "twinDifference", "count",
        "score", "placement", "placement", "assignedMould", "rivalCount", "sheetsOf", "sheetAt",
        "sheetAt", "sheetAt", "earliest", "latest", "contradictionCount"};

    private final Checks checks;
    private final Random random;
    private final MouldMatcher x = new MouldMatcher();
    private final Reference reference = new Reference();
    private final StringBuilder told = new StringBuilder();
    private final boolean rough;
    /** Every other run has few moulds, so that many sheets with states share one. */
    private final int mouldLimit;
    private int calls = 0;
    private int moulds = 0;
    private int sheets = 0;
    private int[][] mouldSpacings = new int[10][];
    private int[][] mouldMarks = new int[10][];

    private RandomRunsTest(Checks checks, int seed) {
        this.checks = checks;
        this.random = new Random(seed);
        this.rough = seed % 3 == 0;
        this.mouldLimit = seed % 2 == 0 ? 1 + seed % 3 : 11;
    }

    public static void main(String[] args) {
        Checks checks = new Checks();
        for (int seed = 0; seed < RUNS && checks.wrongAnswers() == 0; seed++) {
            new RandomRunsTest(checks, seed).run();
        }
        checks.end();
    }

    private void run() {
        while (calls < CALLS && checks.wrongAnswers() == 0) {
            int kind = random.nextInt(100);
            if (kind < 6 && moulds < mouldLimit) {
                newMould();
            } else if (kind < 18) {
                newSheet();
            } else if (kind < 40) {
                some(CHANGES);
            } else if (kind < 97) {
                some(QUESTIONS);
            } else {
                call("addToRow", 80 + random.nextInt(400), 0, 0);
            }
        }
    }

    private int call(String name, int a, int b, int c) {
        if (calls >= CALLS) {
            return 0;
        }
        calls++;
        int got = Calls.answer(x, name, a, b, c);
        int want = reference.answer(name, a, b, c);
        told.append(name).append('(').append(a).append(", ").append(b).append(", ").append(c)
                .append(") = ").append(got).append("; ");
        checks.due(got == want ? name : told.toString(), got, want);
        return got;
    }

    private int maybeWrong(int value) {
        return random.nextInt(40) == 0 ? WRONG[random.nextInt(WRONG.length)] : value;
    }

    private int mould() {
        return maybeWrong(random.nextInt(Math.max(1, moulds)));
    }

    private int sheet() {
        return maybeWrong(random.nextInt(Math.max(1, sheets)));
    }

    private int[] enter(int[] spacings) {
        call("clearRow", 0, 0, 0);
        for (int spacing : spacings) {
            call("addToRow", spacing, 0, 0);
        }
        return spacings;
    }

    /** Half of the moulds are near an earlier one, so that there are twins and rivals. */
    private void newMould() {
        int[] spacings;
        int interval;
        if (moulds > 0 && random.nextBoolean()) {
            int like = random.nextInt(moulds);
            spacings = mouldSpacings[like].clone();
            interval = random.nextInt(4) == 0 ? 0 : mouldMarks[like][0];
            spacings[random.nextInt(spacings.length)] += random.nextInt(9) - 4;
        } else {
            spacings = new int[random.nextInt(20) == 0 ? 2 : 3 + random.nextInt(8)];
            int base = 110 + random.nextInt(300);
            for (int k = 0; k < spacings.length; k++) {
                spacings[k] = base + random.nextInt(rough ? 40 : 7);
            }
            interval = random.nextInt(spacings.length);
        }
        enter(spacings);
        int px = random.nextInt(110);
        int py = random.nextInt(301);
        int number = call("addMould", maybeWrong(interval), maybeWrong(px), maybeWrong(py));
        if (number >= 0) {
            mouldSpacings[number] = spacings;
            mouldMarks[number] = new int[] {interval, px, py};
            moulds = number + 1;
        }
    }

    /** A sheet is a part of a mould, shrunk, turned and measured with small faults. */
    private void newSheet() {
        if (moulds == 0 || random.nextInt(12) == 0) {
            call("addSheet", random.nextInt(4) - 1, random.nextInt(460), random.nextInt(310));
            return;
        }
        int like = random.nextInt(moulds);
        int[] from = mouldSpacings[like];
        int n = mouldLimit < 4 ? from.length : 2 + random.nextInt(from.length - 1);
        int o = random.nextInt(from.length - n + 1);
        int p = 940 + 5 * random.nextInt(13);
        int[] spacings = new int[n];
        boolean reversed = random.nextBoolean();
        for (int j = 0; j < n; j++) {
            int spacing = from[o + j] * p / 1000 + random.nextInt(5) - 2;
            spacings[reversed ? n - 1 - j : j] = spacing;
        }
        enter(spacings);
        int j = mouldMarks[like][0] - o;
        if (j < 0 || j >= n || random.nextInt(8) == 0) {
            number(call("addSheet", -1, random.nextInt(700) - 200, random.nextInt(700) - 200));
            return;
        }
        int interval = reversed ? n - 1 - j : j;
        int px = mouldMarks[like][1] * p / 1000 + random.nextInt(61) - 30;
        int py = mouldMarks[like][2] * p / 1000 + random.nextInt(41) - 20;
        px = reversed ? spacings[interval] - px : px;
        py = random.nextBoolean() ? 300 - py : py;
        number(call("addSheet", maybeWrong(interval), px, py));
    }

    private void number(int answer) {
        if (answer >= 0) {
            sheets = answer + 1;
        }
    }

    private void some(String[] names) {
        String name = names[random.nextInt(names.length)];
        switch (name) {
            case "addState": {
                int m = mould();
                int[] mark = m >= 0 && m < moulds ? mouldMarks[m] : new int[3];
                call(name, m, maybeWrong(mark[1] + random.nextInt(61) - 30),
                        maybeWrong(mark[2] + random.nextInt(21) - 10));
                break;
            }
            case "setTolerances":
                call(name, random.nextInt(4) > 0 ? 5 : random.nextInt(52) - 1,
                        random.nextInt(3) > 0 ? 20 : random.nextInt(102) - 1, 0);
                break;
            case "setDates": {
                int first = 1500 + random.nextInt(40);
                call(name, sheet(), maybeWrong(first), maybeWrong(first + random.nextInt(30) - 1));
                break;
            }
            case "areTwins":
            case "twinDifference":
                call(name, mould(), mould(), 0);
                break;
            case "count":
                call(name, maybeWrong(random.nextInt(3)), 0, 0);
                break;
            case "score":
                call(name, sheet(), mould(), 0);
                break;
            case "placement":
                call(name, sheet(), mould(), maybeWrong(random.nextInt(4)));
                break;
            case "assignedMould":
            case "earliest":
            case "latest":
                call(name, sheet(), 0, 0);
                break;
            case "rivalCount":
                call(name, sheet(), maybeWrong(random.nextInt(60)), 0);
                break;
            case "sheetAt":
                call(name, mould(), maybeWrong(random.nextInt(mouldLimit < 4 ? 10 : 4)), 0);
                break;
            default:
                call(name, mould(), 0, 0);
        }
    }
}
