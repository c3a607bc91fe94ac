import java.util.ArrayList;
import java.util.List;

/**
 * "A call that reports an error changes nothing." Each refused call is made in the midst of a run,
 * and every question is then answered as it is without the refused call. The same holds for NONE
 * and for the questions themselves. No object is used for more than 512 calls.
 */
public final class RefusalsTest {
    private static final int CALLS = 512;
    private static final int LEAST = Integer.MIN_VALUE;
    private static final int GREATEST = Integer.MAX_VALUE;
    private static final Checks CHECKS = new Checks();

    private record Call(String name, int a, int b, int c) {
        int on(MouldMatcher x) {
            return Calls.answer(x, name, a, b, c);
        }
    }

    /** A state of an object: the calls that make it, and what is asked and tried after them. */
    private static final class Scene {
        final String title;
        final List<Call> setup = new ArrayList<>();
        final List<List<Call>> chunks = new ArrayList<>();
        final List<int[]> dueAnswers = new ArrayList<>();
        List<Call> questions = new ArrayList<>();

        Scene(String title) {
            this.title = title;
        }

        void make(String name, int... arguments) {
            setup.add(call(name, arguments));
        }

        void row(int... spacings) {
            make("clearRow");
            for (int spacing : spacings) {
                make("addToRow", spacing);
            }
        }

        MouldMatcher begin() {
            MouldMatcher x = new MouldMatcher();
            for (Call call : setup) {
                call.on(x);
            }
            return x;
        }

        /** Cuts the questions so that an object has room for the setup and one call more. */
        void ready() {
            MouldMatcher x = begin();
            questions = questions(x.count(0), x.count(1));
            int room = CALLS - setup.size() - 1;
            for (int from = 0; from < questions.size(); from += room) {
                chunks.add(questions.subList(from, Math.min(questions.size(), from + room)));
            }
            chunks.add(trials());
            for (List<Call> chunk : chunks) {
                CHECKS.holds("room for all calls", setup.size() + 1 + chunk.size() <= CALLS);
                dueAnswers.add(answers(begin(), chunk));
            }
        }

        void changesNothing(int due, Call call) {
            for (int k = 0; k < chunks.size(); k++) {
                MouldMatcher x = begin();
                CHECKS.due(title + ": " + call, call.on(x), due);
                int[] got = answers(x, chunks.get(k));
                for (int q = 0; q < got.length; q++) {
                    CHECKS.due(title + ": " + chunks.get(k).get(q) + " after " + call, got[q],
                            dueAnswers.get(k)[q]);
                }
            }
        }

        void refuses(int due, String name, int... arguments) {
            changesNothing(due, call(name, arguments));
        }
    }

    public static void main(String[] args) {
        Scene empty = new Scene("empty");
        empty.ready();
        refusedByAll(empty, 0, 0);
        refusedWhenEmpty(empty);
        Scene some = some();
        refusedByAll(some, 3, 7);
        refusedBySome(some);
        questionsChangeNothing(some);
        Scene full = full();
        refusedByAll(full, 10, 30);
        refusedWhenFull(full);
        refusedWithShortRow(fullWithShortRow());
        CHECKS.end();
    }

    private static Call call(String name, int... arguments) {
        int[] three = java.util.Arrays.copyOf(arguments, 3);
        return new Call(name, three[0], three[1], three[2]);
    }

    private static int[] answers(MouldMatcher x, List<Call> calls) {
        int[] answers = new int[calls.size()];
        for (int k = 0; k < answers.length; k++) {
            answers[k] = calls.get(k).on(x);
        }
        return answers;
    }

    // ---- the scenes

    /** Three moulds, two of them twins, seven sheets, and a row of three numbers. */
    private static Scene some() {
        Scene s = new Scene("some");
        s.row(400, 200, 220, 230);
        s.make("addMould", 0, 50, 60);
        s.make("addState", 0, 120, 60);
        s.make("addMould", 0, 58, 61);
        s.row(300, 310, 320);
        s.make("addMould", 2, 30, 40);
        s.make("setTolerances", 7, 30);
        s.row(400, 200, 220);
        s.make("addSheet", 0, 118, 62);
        s.make("addSheet", 0, 50, 58);
        s.make("addSheet", -1, 0, 0);
        s.make("addSheet", 0, 59, 240);
        s.row(220, 202, 398);
        s.make("addSheet", 2, 280, 240);
        s.row(320, 310);
        s.make("addSheet", 0, 289, 40);
        s.row(100, 450, 105);
        s.make("addSheet", 1, 10, 10);
        for (int sheet = 0; sheet < 7; sheet++) {
            s.make("setDates", sheet, 1500 + 7 * sheet % 5, 1505 + 3 * sheet % 7);
        }
        s.ready();
        return s;
    }

    private static Scene fullSetup(String title) {
        Scene s = new Scene(title);
        s.make("setTolerances", 6, 25);
        s.row(400, 200, 220, 230, 240, 250, 260, 270, 280, 290);
        for (int mould = 0; mould < 5; mould++) {
            s.make("addMould", mould, 50 + 10 * mould, 60);
        }
        for (int state = 1; state < 6; state++) {
            s.make("addState", 0, 50 + 50 * state, 60);
        }
        for (int sheet = 0; sheet < 10; sheet++) {
            s.make("addSheet", sheet % 6 - 1, 50 + 10 * (sheet % 6), 60);
        }
        s.row(400, 200, 220, 230);
        for (int mould = 5; mould < 10; mould++) {
            s.make("addMould", mould % 4, 45 + 10 * mould, 80);
        }
        for (int sheet = 10; sheet < 30; sheet++) {
            s.make("addSheet", 0, 40 + 12 * (sheet - 10), 62);
        }
        for (int sheet = 0; sheet < 30; sheet++) {
            s.make("setDates", sheet, 1500 + 7 * sheet % 23, 1530 + 5 * sheet % 19);
        }
        return s;
    }

    private static Scene full() {
        Scene s = fullSetup("full");
        s.row(400, 200, 220, 230, 240, 250, 260, 270, 280, 290);
        s.ready();
        return s;
    }

    private static Scene fullWithShortRow() {
        Scene s = fullSetup("full, with a short row");
        s.row(400);
        s.ready();
        return s;
    }

    // ---- what is asked and tried

    private static List<Call> questions(int moulds, int sheets) {
        List<Call> all = new ArrayList<>();
        for (int what = 0; what < 3; what++) {
            all.add(call("count", what));
        }
        for (int mould = 0; mould <= moulds; mould++) {
            all.add(call("stateCount", mould));
            all.add(call("sheetsOf", mould));
            all.add(call("contradictionCount", mould));
            for (int other = 0; other <= moulds; other++) {
                all.add(call("areTwins", mould, other));
                all.add(call("twinDifference", mould, other));
            }
            for (int place = 0; place <= sheets; place++) {
                all.add(call("sheetAt", mould, place));
            }
        }
        for (int sheet = 0; sheet <= sheets; sheet++) {
            all.add(call("assignedMould", sheet));
            all.add(call("earliest", sheet));
            all.add(call("latest", sheet));
            for (int margin : new int[] {0, 10, 1000}) {
                all.add(call("rivalCount", sheet, margin));
            }
            for (int mould = 0; mould <= moulds; mould++) {
                all.add(call("score", sheet, mould));
                for (int what = 0; what < 4; what++) {
                    all.add(call("placement", sheet, mould, what));
                }
            }
        }
        return all;
    }

    /** Calls whose answers tell the tolerances, the dates, the row and its numbers, and the room. */
    private static List<Call> trials() {
        List<Call> all = new ArrayList<>();
        for (int[] tolerances : new int[][] {{5, 20}, {7, 30}, {6, 25}}) {
            all.add(call("setTolerances", tolerances[0], tolerances[1]));
        }
        for (int sheet = 0; sheet < 30; sheet++) {
            all.add(call("setDates", sheet, 1500 + 7 * sheet % 5, 1505 + 3 * sheet % 7));
            all.add(call("setDates", sheet, 1500 + 7 * sheet % 23, 1530 + 5 * sheet % 19));
        }
        for (int spacing = 100; spacing <= 450; spacing += 5) {
            all.add(call("addMould", 0, spacing + 1, 0));
            all.add(call("addMould", 1, spacing + 1, 0));
            all.add(call("addSheet", 2, spacing + 1, 0));
        }
        for (int mould = 0; mould < 10; mould++) {
            all.add(call("addState", mould, 90, 90));
            all.add(call("removeState", mould));
        }
        all.add(call("addToRow", 300));
        all.add(call("addMould", 0, 0, 0));
        all.add(call("addSheet", 0, 0, 0));
        all.add(call("clearRow"));
        return all;
    }

    // ---- the refused calls

    /** What is refused whatever the object holds, if it holds so many moulds and sheets. */
    private static void refusedByAll(Scene s, int moulds, int sheets) {
        for (int wrong : new int[] {99, 451, LEAST, GREATEST}) {
            s.refuses(-3, "addToRow", wrong);
        }
        s.refuses(-3, "setTolerances", 51, 30);
        s.refuses(-3, "setTolerances", 8, 101);
        s.refuses(-3, "setTolerances", -1, 30);
        s.refuses(-3, "setTolerances", 8, -1);
        s.refuses(-3, "setTolerances", LEAST, GREATEST);
        s.refuses(-3, "count", 3);
        s.refuses(-3, "count", -1);
        for (int wrong : new int[] {-1, moulds, LEAST, GREATEST}) {
            s.refuses(-1, "addState", wrong, 0, 0);
            s.refuses(-1, "addState", wrong, -1, 301);
            s.refuses(-1, "removeState", wrong);
            s.refuses(-1, "stateCount", wrong);
            s.refuses(-1, "areTwins", wrong, wrong);
            s.refuses(-1, "twinDifference", wrong, 0);
            s.refuses(-1, "sheetsOf", wrong);
            s.refuses(-1, "sheetAt", wrong, -1);
            s.refuses(-1, "contradictionCount", wrong);
        }
        for (int wrong : new int[] {-1, sheets, LEAST, GREATEST}) {
            s.refuses(-2, "setDates", wrong, 1, 2);
            s.refuses(-2, "setDates", wrong, 2, 1);
            s.refuses(-2, "score", wrong, -1);
            s.refuses(-2, "placement", wrong, -1, -1);
            s.refuses(-2, "assignedMould", wrong);
            s.refuses(-2, "rivalCount", wrong, -1);
            s.refuses(-2, "earliest", wrong);
            s.refuses(-2, "latest", wrong);
        }
    }

    private static void refusedWhenEmpty(Scene s) {
        s.refuses(-4, "addMould", 0, 0, 0);
        s.refuses(-4, "addMould", -1, -1, -1);
        s.refuses(-4, "addSheet", -1, 0, 0);
        s.refuses(-4, "addSheet", -2, -1, -1);
        s.refuses(0, "clearRow");
        s.refuses(0, "setTolerances", 5, 20);
    }

    /** The row is 100, 450, 105 and sheet 6 fits no mould. */
    private static void refusedBySome(Scene s) {
        for (String name : new String[] {"addMould", "addSheet"}) {
            s.refuses(-3, name, -2, 0, 0);
            s.refuses(-3, name, 3, 0, 0);
            s.refuses(-3, name, 0, 101, 0);
            s.refuses(-3, name, 2, 106, 0);
            s.refuses(-3, name, 0, -1, 0);
            s.refuses(-3, name, 0, 0, -1);
            s.refuses(-3, name, 0, 0, 301);
            s.refuses(-3, name, GREATEST, 0, 0);
            s.refuses(-3, name, 0, LEAST, 0);
        }
        s.refuses(-3, "addMould", -1, 0, 0);
        s.refuses(-3, "addState", 0, 401, 0);
        s.refuses(-3, "addState", 0, 0, 301);
        s.refuses(-3, "addState", 2, 321, 0);
        s.refuses(-6, "removeState", 1);
        s.refuses(-6, "removeState", 2);
        s.refuses(-3, "areTwins", 1, 1);
        s.refuses(-3, "twinDifference", 1, 1);
        s.refuses(-3, "setDates", 0, -1, 1600);
        s.refuses(-3, "setDates", 0, 1400, 10000);
        s.refuses(-3, "setDates", 0, 1500, 1499);
        s.refuses(-3, "setDates", 6, 10000, 10000);
        s.refuses(-1, "score", 0, 3);
        s.refuses(-1, "placement", 0, 3, 4);
        s.refuses(-3, "placement", 0, 0, 4);
        s.refuses(-3, "placement", 6, 0, -1);
        s.refuses(-3, "rivalCount", 0, 1001);
        s.refuses(-3, "rivalCount", 6, -1);
        s.refuses(-6, "rivalCount", 6, 0);
        s.refuses(-6, "score", 6, 0);
        s.refuses(-6, "assignedMould", 6);
        s.refuses(-3, "sheetAt", 0, -1);
        s.refuses(-6, "sheetAt", 0, 7);
        s.refuses(0, "setTolerances", 7, 30);
        s.refuses(0, "setDates", 0, 1500, 1505);
    }

    private static void refusedWhenFull(Scene s) {
        s.refuses(-5, "addToRow", 100);
        s.refuses(-5, "addToRow", 450);
        s.refuses(-5, "addMould", 0, 400, 300);
        s.refuses(-3, "addMould", 10, 0, 0);
        s.refuses(-3, "addMould", 0, 401, 0);
        s.refuses(-3, "addMould", 0, 0, 301);
        s.refuses(-5, "addSheet", 9, 290, 300);
        s.refuses(-5, "addSheet", -1, 0, 0);
        s.refuses(-3, "addSheet", 10, 0, 0);
        s.refuses(-3, "addSheet", 9, 291, 0);
        s.refuses(-3, "addSheet", 0, 0, -1);
        s.refuses(-5, "addState", 0, 0, 0);
        s.refuses(-3, "addState", 0, 401, 0);
        s.refuses(-6, "removeState", 9);
    }

    private static void refusedWithShortRow(Scene s) {
        s.refuses(-4, "addMould", 0, 0, 0);
        s.refuses(-4, "addMould", 1, 0, 0);
        s.refuses(-4, "addSheet", 0, 0, 0);
        s.refuses(-4, "addSheet", -1, 0, 0);
        s.refuses(-4, "addSheet", 1, 0, 0);
    }

    private static void questionsChangeNothing(Scene s) {
        for (Call question : s.questions) {
            s.changesNothing(question.on(s.begin()), question);
        }
    }
}
