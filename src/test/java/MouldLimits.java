/** The limits of moulds, their states and twins: promises 5 to 10. */
final class MouldLimits {
    private static final int[] TEN = {100, 450, 110, 440, 120, 430, 130, 420, 140, 410};
    private static final int[] FAR = {Integer.MIN_VALUE, -1000, -7, 1000, Integer.MAX_VALUE};
    private final Sentences doc;

    MouldLimits(Sentences doc) {
        this.doc = doc;
    }

    void run() {
        shortRow();
        intervals();
        marks();
        refusedMoulds();
        allMoulds();
        spacingsAreKept();
        stateArguments();
        allStates();
        statesAreLater();
        removal();
        onlyState();
        stateCounts();
        twinArguments();
        twinSpacings();
        twinTolerances();
        twinForms();
        differences();
        differenceOfStates();
    }

    // ---- promise 5

    private void shortRow() {
        doc.says(5, "BAD_ROW if the row has fewer than 3 numbers");
        MouldMatcher x = new MouldMatcher();
        doc.due("0 numbers", x.addMould(0, 0, 0), -4);
        x.addToRow(200);
        doc.due("1 number", x.addMould(0, 0, 0), -4);
        x.addToRow(200);
        doc.due("2 numbers", x.addMould(0, 0, 0), -4);
        doc.due("before BAD_VALUE: interval", x.addMould(5, 0, 0), -4);
        doc.due("before BAD_VALUE: x", x.addMould(0, 201, 0), -4);
        doc.due("before BAD_VALUE: y", x.addMould(0, 0, 301), -4);
        doc.due("no mould", x.count(0), 0);
        x.addToRow(200);
        doc.due("3 numbers", x.addMould(0, 0, 0), 0);
        doc.says(0, "A mould has 3 to 10 spacings, numbered from 0 from left to right.");
        Checks.row(x, 200, 200);
        doc.due("2 spacings", x.addMould(0, 0, 0), -4);
        Checks.row(x, 200, 210, 220);
        doc.due("3 spacings", x.addMould(2, 220, 0), 1);
        Checks.row(x, TEN);
        doc.due("10 spacings", x.addMould(9, 410, 0), 2);
    }

    private void intervals() {
        doc.says(5, "`interval`: interval of the watermark, from 0");
        MouldMatcher x = new MouldMatcher();
        Checks.row(x, 200, 210, 220);
        doc.due("-1", x.addMould(-1, 0, 0), -3);
        doc.due("0 of 3", x.addMould(0, 0, 0), 0);
        doc.due("2 of 3", x.addMould(2, 0, 0), 1);
        doc.due("3 of 3", x.addMould(3, 0, 0), -3);
        Checks.row(x, TEN);
        doc.due("0 of 10", x.addMould(0, 0, 0), 2);
        doc.due("9 of 10", x.addMould(9, 0, 0), 3);
        doc.due("10 of 10", x.addMould(10, 0, 0), -3);
        Checks.row(x, 200, 210, 220);
        doc.due("3 of 3, after a longer row", x.addMould(3, 0, 0), -3);
        for (int far : FAR) {
            doc.due("interval " + far, x.addMould(far, 0, 0), -3);
        }
    }

    private void marks() {
        doc.says(5, "`x`: X of state 0, 0 to the spacing of this interval");
        MouldMatcher x = new MouldMatcher();
        Checks.row(x, 450, 100, 449);
        doc.due("-1", x.addMould(1, -1, 0), -3);
        doc.due("0", x.addMould(1, 0, 0), 0);
        doc.due("100 of 100", x.addMould(1, 100, 0), 1);
        doc.due("101 of 100, between wider intervals", x.addMould(1, 101, 0), -3);
        doc.due("450 of 450", x.addMould(0, 450, 0), 2);
        doc.due("451 of 450", x.addMould(0, 451, 0), -3);
        doc.due("449 of 449", x.addMould(2, 449, 0), 3);
        doc.due("450 of 449", x.addMould(2, 450, 0), -3);
        doc.says(5, "`y`: Y of state 0, 0 to 300");
        doc.due("-1", x.addMould(0, 0, -1), -3);
        doc.due("0", x.addMould(0, 0, 0), 4);
        doc.due("300", x.addMould(0, 0, 300), 5);
        doc.due("301", x.addMould(0, 0, 301), -3);
        doc.due("300 in a narrow interval", x.addMould(1, 0, 300), 6);
    }

    private void refusedMoulds() {
        doc.says(5, "BAD_VALUE");
        MouldMatcher x = new MouldMatcher();
        Checks.row(x, 300, 100, 200);
        for (int far : FAR) {
            doc.due("interval " + far, x.addMould(far, 0, 0), -3);
            doc.due("x " + far, x.addMould(0, far, 0), -3);
            doc.due("y " + far, x.addMould(0, 0, far), -3);
        }
        doc.due("none was added", x.count(0), 0);
        doc.due("the row is as it was", x.count(2), 3);
        doc.due("the first number is still to come", x.addMould(0, 0, 0), 0);
    }

    private void allMoulds() {
        doc.says(5, "the number of the mould");
        MouldMatcher x = new MouldMatcher();
        Checks.row(x, 200, 210, 220);
        for (int mould = 0; mould < 10; mould++) {
            doc.due("mould " + mould, x.addMould(mould % 3, mould, 0), mould);
        }
        doc.says(5, "FULL if there are 10 moulds");
        doc.due("an eleventh", x.addMould(0, 0, 0), -5);
        doc.due("BAD_VALUE comes first: interval", x.addMould(3, 0, 0), -3);
        doc.due("BAD_VALUE comes first: x", x.addMould(0, 201, 0), -3);
        doc.due("BAD_VALUE comes first: y", x.addMould(0, 0, 301), -3);
        Checks.row(x, 200, 210);
        doc.due("BAD_ROW comes first", x.addMould(0, 0, 0), -4);
        doc.due("BAD_ROW comes first of all", x.addMould(3, 0, 0), -4);
        doc.says(0, "There are up to 10 moulds, numbered from 0 in order of addition.");
        doc.due("ten moulds", x.count(0), 10);
        doc.due("the last one", x.stateCount(9), 1);
        doc.due("no mould 10", x.stateCount(10), -1);
        for (int mould = 1; mould < 10; mould++) {
            int due = mould % 3 == 0 ? mould : -6;
            doc.due("the place of mould " + mould, x.twinDifference(0, mould), due);
        }
    }

    private void spacingsAreKept() {
        doc.says(5, "Adds a mould with the spacings of the row and a watermark with one state.");
        MouldMatcher x = new MouldMatcher();
        x.setTolerances(0, 0);
        Checks.row(x, 200, 240, 220);
        x.addMould(1, 7, 8);
        Checks.row(x, 300, 300, 300);
        x.addMould(1, 7, 8);
        Checks.row(x, 200, 240, 220);
        x.addSheet(1, 7, 8);
        doc.due("another row does not change the mould", x.score(0, 0), 0);
        doc.due("the other mould has its own", x.score(0, 1), -6);
        doc.due("one state", x.stateCount(0), 1);
    }

    // ---- promises 6 to 8

    /** Mould 0 has the spacing 200 in the interval of its watermark, mould 1 has 100. */
    private static MouldMatcher twoMoulds() {
        MouldMatcher x = new MouldMatcher();
        Checks.row(x, 450, 200, 440);
        x.addMould(1, 10, 20);
        Checks.row(x, 100, 450, 450, 450);
        x.addMould(0, 10, 20);
        return x;
    }

    private void stateArguments() {
        MouldMatcher x = twoMoulds();
        doc.says(6, "`x`: X, 0 to the spacing of the interval of the watermark");
        doc.due("-1", x.addState(0, -1, 0), -3);
        doc.due("0", x.addState(0, 0, 0), 1);
        doc.due("200 of 200", x.addState(0, 200, 0), 2);
        doc.due("201 of 200, with wider intervals and a wider row", x.addState(0, 201, 0), -3);
        doc.due("100 of 100", x.addState(1, 100, 0), 1);
        doc.due("101 of 100", x.addState(1, 101, 0), -3);
        Checks.row(x, 100, 100, 100);
        doc.due("200 of 200, with a narrower row", x.addState(0, 200, 0), 3);
        x.clearRow();
        doc.due("100 of 100, with an empty row", x.addState(1, 100, 0), 2);
        doc.says(6, "`y`: Y, 0 to 300");
        doc.due("-1", x.addState(1, 0, -1), -3);
        doc.due("0", x.addState(1, 0, 0), 3);
        doc.due("300", x.addState(1, 0, 300), 4);
        doc.due("301", x.addState(1, 0, 301), -3);
        doc.says(6, "BAD_VALUE");
        for (int far : FAR) {
            doc.due("x " + far, x.addState(1, far, 0), -3);
            doc.due("y " + far, x.addState(1, 0, far), -3);
        }
        doc.due("none was added", x.stateCount(1), 5);
        noSuchMould();
    }

    private void noSuchMould() {
        MouldMatcher none = new MouldMatcher();
        MouldMatcher x = twoMoulds();
        int[] wrong = {-1, 2, 9, 10, Integer.MAX_VALUE, Integer.MIN_VALUE};
        doc.says(6, "`mould`: number of a mould");
        doc.due("the first", x.addState(0, 0, 0), 1);
        doc.due("the last", x.addState(1, 0, 0), 1);
        doc.says(6, "NO_SUCH_MOULD");
        doc.due("no moulds", none.addState(0, 0, 0), -1);
        for (int mould : wrong) {
            doc.due("mould " + mould, x.addState(mould, 0, 0), -1);
            doc.due("before BAD_VALUE, mould " + mould, x.addState(mould, -1, 301), -1);
        }
        doc.says(7, "`mould`: number of a mould");
        doc.due("the first", x.removeState(0), 1);
        doc.due("the last", x.removeState(1), 1);
        doc.says(7, "NO_SUCH_MOULD");
        doc.due("no moulds", none.removeState(0), -1);
        for (int mould : wrong) {
            doc.due("mould " + mould, x.removeState(mould), -1);
        }
        doc.says(8, "`mould`: number of a mould");
        doc.due("the first", x.stateCount(0), 1);
        doc.due("the last", x.stateCount(1), 1);
        doc.says(8, "NO_SUCH_MOULD");
        doc.due("no moulds", none.stateCount(0), -1);
        for (int mould : wrong) {
            doc.due("mould " + mould, x.stateCount(mould), -1);
        }
    }

    private void allStates() {
        doc.says(6, "the number of the state");
        MouldMatcher x = twoMoulds();
        for (int state = 1; state < 6; state++) {
            doc.due("state " + state, x.addState(0, 10 * state, 0), state);
        }
        doc.says(6, "FULL if the mould has 6 states");
        doc.due("a seventh", x.addState(0, 0, 0), -5);
        doc.due("BAD_VALUE comes first: x", x.addState(0, 201, 0), -3);
        doc.due("BAD_VALUE comes first: y", x.addState(0, 0, 301), -3);
        doc.due("NO_SUCH_MOULD comes first", x.addState(2, 0, 0), -1);
        doc.due("another mould has room", x.addState(1, 0, 0), 1);
        doc.says(0, "The watermark has 1 to 6 states, numbered from 0 in the order of time");
        doc.due("six states", x.stateCount(0), 6);
        doc.due("one is removed", x.removeState(0), 5);
        doc.due("room again", x.addState(0, 0, 0), 5);
        doc.due("full again", x.addState(0, 0, 0), -5);
    }

    /** Six states 60 apart, so that the mark of a sheet fits one of them alone. */
    private static MouldMatcher sixStates() {
        MouldMatcher x = new MouldMatcher();
        x.setTolerances(0, 10);
        Checks.row(x, 400, 200, 220);
        x.addMould(0, 10, 20);
        for (int state = 1; state < 6; state++) {
            x.addState(0, 10 + 60 * state, 20);
        }
        for (int sheet = 0; sheet < 6; sheet++) {
            x.addSheet(0, 10 + 60 * sheet, 20);
        }
        return x;
    }

    private void statesAreLater() {
        doc.says(6, "Adds a state of the watermark of a mould, later than all others.");
        MouldMatcher x = sixStates();
        for (int sheet = 0; sheet < 6; sheet++) {
            doc.due("the state of sheet " + sheet, x.placement(sheet, 0, 3), sheet);
            doc.due("the place of sheet " + sheet, x.sheetAt(0, sheet), sheet);
        }
    }

    private void removal() {
        doc.says(7, "the number of states that are left");
        MouldMatcher x = sixStates();
        for (int left = 5; left >= 1; left--) {
            doc.due("left", x.removeState(0), left);
        }
        doc.says(7, "Removes the last state of the watermark of a mould.");
        MouldMatcher other = sixStates();
        for (int left = 5; left >= 1; left--) {
            other.removeState(0);
            doc.due("the last one is gone: " + left, other.score(left, 0), -6);
            doc.due("the one before stays: " + left, other.placement(left - 1, 0, 3), left - 1);
        }
    }

    private void onlyState() {
        doc.says(7, "NONE if there is only one state (nothing changes then)");
        MouldMatcher x = twoMoulds();
        Checks.row(x, 450, 200, 440);
        x.addSheet(1, 10, 20);
        doc.due("the only state of a new mould", x.removeState(0), -6);
        doc.due("once more", x.removeState(0), -6);
        doc.due("still one state", x.stateCount(0), 1);
        doc.due("in its place", x.score(0, 0), 0);
        doc.due("the next state has the number 1", x.addState(0, 150, 20), 1);
        doc.due("it is removed", x.removeState(0), 1);
        doc.due("the only state again", x.removeState(0), -6);
        doc.due("state 0 in its place", x.placement(0, 0, 3), 0);
    }

    private void stateCounts() {
        doc.says(8, "the number of its states");
        MouldMatcher x = twoMoulds();
        doc.due("one at first", x.stateCount(0), 1);
        for (int states = 2; states <= 6; states++) {
            x.addState(0, 0, 0);
            doc.due("after an addition", x.stateCount(0), states);
        }
        x.addState(0, 0, 0);
        doc.due("after a refusal", x.stateCount(0), 6);
        doc.due("of its own", x.stateCount(1), 1);
        for (int states = 5; states >= 1; states--) {
            x.removeState(0);
            doc.due("after a removal", x.stateCount(0), states);
        }
        x.removeState(0);
        doc.due("never none", x.stateCount(0), 1);
    }

    // ---- promises 9 and 10

    /** Two moulds with marks in interval 1 at the same place. */
    private static MouldMatcher pair(int[] first, int[] second) {
        MouldMatcher x = new MouldMatcher();
        Checks.row(x, first);
        x.addMould(1, 50, 60);
        Checks.row(x, second);
        x.addMould(1, 50, 60);
        return x;
    }

    private void twinArguments() {
        MouldMatcher none = new MouldMatcher();
        MouldMatcher x = pair(new int[] {200, 210, 220}, new int[] {200, 210, 220});
        x.addMould(1, 50, 60);
        doc.says(9, "`first`: number of a mould");
        doc.due("the first two", x.areTwins(0, 1), 1);
        doc.due("the last first", x.areTwins(2, 0), 1);
        doc.says(9, "`second`: number of another mould");
        doc.due("the last second", x.areTwins(0, 2), 1);
        doc.says(10, "`first`: number of a mould");
        doc.due("the first two", x.twinDifference(0, 1), 0);
        doc.due("the last first", x.twinDifference(2, 0), 0);
        doc.says(10, "`second`: number of another mould");
        doc.due("the last second", x.twinDifference(0, 2), 0);
        for (int promise = 9; promise <= 10; promise++) {
            String name = promise == 9 ? "areTwins" : "twinDifference";
            doc.says(promise, "BAD_VALUE if both are the same");
            for (int mould = 0; mould < 3; mould++) {
                doc.due("both " + mould, Calls.answer(x, name, mould, mould, 0), -3);
            }
            doc.says(promise, "NO_SUCH_MOULD");
            doc.due("no moulds", Calls.answer(none, name, 0, 1, 0), -1);
            doc.due("no moulds, both the same", Calls.answer(none, name, 0, 0, 0), -1);
            for (int wrong : new int[] {-1, 3, 10, Integer.MAX_VALUE, Integer.MIN_VALUE}) {
                doc.due("first " + wrong, Calls.answer(x, name, wrong, 0, 0), -1);
                doc.due("second " + wrong, Calls.answer(x, name, 0, wrong, 0), -1);
                doc.due("both " + wrong, Calls.answer(x, name, wrong, wrong, 0), -1);
            }
        }
    }

    private void twinSpacings() {
        doc.says(9, "no two spacings with the same number differ by more than the spacing tolerance");
        int[] base = {200, 210, 220, 230};
        for (int k = 0; k < base.length; k++) {
            for (int by : new int[] {-6, -5, 5, 6}) {
                int[] other = base.clone();
                other[k] += by;
                int due = Math.abs(by) <= 5 ? 1 : 0;
                doc.due("spacing " + k + " by " + by, pair(base, other).areTwins(0, 1), due);
                doc.due("the other way", pair(base, other).areTwins(1, 0), due);
            }
        }
        int[] last = TEN.clone();
        last[9] += 6;
        doc.due("the last of ten", pair(TEN, last).areTwins(0, 1), 0);
        doc.due("each by 5, all together by more",
                pair(base, new int[] {205, 205, 225, 225}).areTwins(0, 1), 1);
    }

    private void twinTolerances() {
        MouldMatcher x = pair(new int[] {200, 210, 220}, new int[] {200, 210, 221});
        x.setTolerances(0, 100);
        doc.due("1 with the tolerance 0", x.areTwins(0, 1), 0);
        x.setTolerances(1, 100);
        doc.due("1 with the tolerance 1", x.areTwins(0, 1), 1);
        MouldMatcher same = pair(new int[] {200, 210, 220}, new int[] {200, 210, 220});
        same.setTolerances(0, 0);
        doc.due("0 with the tolerance 0", same.areTwins(0, 1), 1);
        MouldMatcher at = pair(new int[] {400, 400, 400}, new int[] {450, 350, 400});
        doc.due("50 with the tolerance 5", at.areTwins(0, 1), 0);
        at.setTolerances(50, 0);
        doc.due("50 with the tolerance 50", at.areTwins(0, 1), 1);
        MouldMatcher beyond = pair(new int[] {399, 400, 400}, new int[] {450, 350, 400});
        beyond.setTolerances(50, 100);
        doc.due("51 with the tolerance 50", beyond.areTwins(0, 1), 0);
    }

    private void twinForms() {
        doc.says(9, "1 if they could be twins, otherwise 0");
        doc.due("alike", pair(TEN, TEN).areTwins(0, 1), 1);
        doc.due("turned around", pair(TEN, reversed(TEN)).areTwins(0, 1), 0);
        doc.says(9, "they have the same number of spacings");
        int[] three = {200, 210, 220};
        int[] four = {200, 210, 220, 230};
        doc.due("3 and 4", pair(three, four).areTwins(0, 1), 0);
        doc.due("4 and 3", pair(four, three).areTwins(0, 1), 0);
        doc.due("3 and 10", pair(three, new int[] {200, 210, 220, 200, 200, 200, 200, 200, 200, 200})
                .areTwins(0, 1), 0);
        doc.says(9, "the same interval of the watermark");
        MouldMatcher x = new MouldMatcher();
        Checks.row(x, 200, 200, 200);
        for (int interval = 0; interval < 3; interval++) {
            x.addMould(interval, 50, 60);
        }
        doc.due("0 and 1", x.areTwins(0, 1), 0);
        doc.due("2 and 1", x.areTwins(2, 1), 0);
        doc.due("0 and 2", x.areTwins(0, 2), 0);
        doc.says(10, "NONE if they could not be twins");
        doc.due("another interval", x.twinDifference(0, 1), -6);
        doc.due("another number of spacings", pair(three, four).twinDifference(0, 1), -6);
        doc.due("and the other way", pair(four, three).twinDifference(0, 1), -6);
        doc.due("6 with the tolerance 5",
                pair(three, new int[] {200, 210, 226}).twinDifference(0, 1), -6);
    }

    private static int[] reversed(int[] row) {
        int[] turned = new int[row.length];
        for (int k = 0; k < row.length; k++) {
            turned[k] = row[row.length - 1 - k];
        }
        return turned;
    }

    private void differences() {
        doc.says(10, "the difference");
        int[] base = {200, 210, 220};
        doc.due("just alike", pair(base, base).twinDifference(0, 1), 0);
        doc.due("5 with the tolerance 5",
                pair(base, new int[] {200, 210, 225}).twinDifference(0, 1), 5);
        doc.due("5 less", pair(base, new int[] {195, 210, 220}).twinDifference(0, 1), 5);
        doc.due("the greatest one", pair(base, new int[] {202, 206, 223}).twinDifference(0, 1), 4);
        MouldMatcher wide = pair(new int[] {400, 400, 400}, new int[] {450, 351, 400});
        wide.setTolerances(50, 0);
        doc.due("50 with the tolerance 50", wide.twinDifference(0, 1), 50);
    }

    /** Two moulds of which one spacing differs by 3. */
    private static MouldMatcher marked(int x0, int y0, int x1, int y1) {
        MouldMatcher x = new MouldMatcher();
        Checks.row(x, 200, 450, 200);
        x.addMould(1, x0, y0);
        Checks.row(x, 203, 450, 200);
        x.addMould(1, x1, y1);
        return x;
    }

    private void differenceOfStates() {
        doc.says(10, "the greatest difference of two spacings with the same number, or, if it is "
                + "greater, the greatest difference of the X or the Y of their states with the number 0");
        doc.due("2 of X and Y is not greater", marked(50, 60, 52, 58).twinDifference(0, 1), 3);
        doc.due("3 of X is as much", marked(50, 60, 53, 60).twinDifference(0, 1), 3);
        doc.due("4 of X", marked(50, 60, 54, 60).twinDifference(0, 1), 4);
        doc.due("4 of X, the other way", marked(54, 60, 50, 60).twinDifference(0, 1), 4);
        doc.due("4 of Y", marked(50, 60, 50, 64).twinDifference(0, 1), 4);
        doc.due("4 of Y, the other way", marked(50, 64, 50, 60).twinDifference(0, 1), 4);
        doc.due("X and Y are not added", marked(50, 60, 54, 65).twinDifference(0, 1), 5);
        doc.due("the greatest of X", marked(0, 0, 450, 0).twinDifference(0, 1), 450);
        doc.due("the greatest of Y", marked(0, 300, 0, 0).twinDifference(0, 1), 300);
        doc.due("both", marked(450, 0, 0, 300).twinDifference(1, 0), 450);
        MouldMatcher x = marked(50, 60, 50, 60);
        x.addState(0, 450, 300);
        x.addState(1, 0, 0);
        doc.due("no other states", x.twinDifference(0, 1), 3);
        x.removeState(0);
        doc.due("nor their removal", x.twinDifference(0, 1), 3);
        x.setTolerances(2, 100);
        doc.due("no twins with the tolerance 2", x.twinDifference(0, 1), -6);
    }
}
