/** The limits of the order of sheets and of their dates: promises 19 to 22. */
final class DateLimits {
    private static final int[] WRONG_MOULDS = {-1, 2, 9, 10, Integer.MAX_VALUE, Integer.MIN_VALUE};
    private static final int NOT_SEEN = -1;
    private static final int LOST = -2;
    private static final int OTHER_MOULD = -3;
    private final Sentences doc;

    DateLimits(Sentences doc) {
        this.doc = doc;
    }

    void run() {
        places();
        orderByState();
        orderByDate();
        orderByNumber();
        fullOrder();
        dateArguments();
        earliestOfLowerStates();
        latestOfGreaterStates();
        sheetsThatDoNotCount();
        farDates();
        earliestAfterLatest();
        presentDates();
        contradictionArguments();
        contradictingDates();
        contradictingStates();
        allContradictions();
    }

    /**
     * A mould with six states, and one sheet for each number here: in the state of this number, or
     * with a mark that was not seen, without a mould, or of mould 1 in its state 0 or 1.
     */
    private static MouldMatcher sheets(int... states) {
        MouldMatcher x = new MouldMatcher();
        x.setTolerances(0, 10);
        Checks.row(x, 400, 200, 220);
        x.addMould(0, 10, 20);
        for (int state = 1; state < 6; state++) {
            x.addState(0, 10 + 60 * state, 20);
        }
        Checks.row(x, 300, 310, 320);
        x.addMould(0, 10, 20);
        x.addState(1, 100, 20);
        for (int state : states) {
            add(x, state);
        }
        return x;
    }

    private static void add(MouldMatcher x, int state) {
        if (state == LOST) {
            Checks.row(x, 100, 450);
            x.addSheet(0, 10, 20);
        } else if (state <= OTHER_MOULD) {
            Checks.row(x, 300, 310, 320);
            x.addSheet(0, state == OTHER_MOULD ? 10 : 100, 20);
        } else {
            Checks.row(x, 400, 200, 220);
            x.addSheet(state == NOT_SEEN ? -1 : 0, 10 + 60 * Math.max(0, state), 20);
        }
    }

    private static void firstDates(MouldMatcher x, int... dates) {
        for (int sheet = 0; sheet < dates.length; sheet++) {
            x.setDates(sheet, dates[sheet], 9999);
        }
    }

    private static void lastDates(MouldMatcher x, int... dates) {
        for (int sheet = 0; sheet < dates.length; sheet++) {
            x.setDates(sheet, 0, dates[sheet]);
        }
    }

    private void orderIs(MouldMatcher x, int mould, int... sheets) {
        for (int place = 0; place < sheets.length; place++) {
            doc.due("place " + place, x.sheetAt(mould, place), sheets[place]);
        }
        doc.due("the place after the last", x.sheetAt(mould, sheets.length), -6);
    }

    private void earliestAre(MouldMatcher x, int... dates) {
        for (int sheet = 0; sheet < dates.length; sheet++) {
            doc.due("earliest date of sheet " + sheet, x.earliest(sheet), dates[sheet]);
        }
    }

    private void latestAre(MouldMatcher x, int... dates) {
        for (int sheet = 0; sheet < dates.length; sheet++) {
            doc.due("latest date of sheet " + sheet, x.latest(sheet), dates[sheet]);
        }
    }

    // ---- promise 19

    private void places() {
        MouldMatcher x = sheets(0, 1, OTHER_MOULD);
        doc.says(19, "`mould`: number of a mould");
        doc.due("the first", x.sheetAt(0, 0), 0);
        doc.due("the last", x.sheetAt(1, 0), 2);
        doc.says(19, "NO_SUCH_MOULD");
        for (int wrong : WRONG_MOULDS) {
            doc.due("mould " + wrong, x.sheetAt(wrong, 0), -1);
            doc.due("before BAD_VALUE, mould " + wrong, x.sheetAt(wrong, -1), -1);
        }
        doc.due("no moulds", new MouldMatcher().sheetAt(0, 0), -1);
        doc.says(19, "`place`: place in this order, from 0");
        doc.due("0", x.sheetAt(0, 0), 0);
        doc.due("1", x.sheetAt(0, 1), 1);
        doc.says(19, "BAD_VALUE if place is negative");
        MouldMatcher none = sheets();
        for (int wrong : new int[] {-1, -2, -6, Integer.MIN_VALUE}) {
            doc.due("place " + wrong, x.sheetAt(0, wrong), -3);
            doc.due("before NONE, place " + wrong, none.sheetAt(0, wrong), -3);
        }
        doc.says(19, "NONE if there are not so many");
        doc.due("2 of 2", x.sheetAt(0, 2), -6);
        doc.due("1 of 1", x.sheetAt(1, 1), -6);
        doc.due("30", x.sheetAt(0, 30), -6);
        doc.due("the greatest", x.sheetAt(0, Integer.MAX_VALUE), -6);
        doc.due("no sheets", none.sheetAt(0, 0), -6);
        doc.due("no states", sheets(NOT_SEEN, NOT_SEEN).sheetAt(0, 0), -6);
        doc.due("no sheets of this mould", sheets(OTHER_MOULD, LOST).sheetAt(0, 0), -6);
    }

    private void orderByState() {
        doc.says(19, "the sheets of the mould that have states are ordered by their states, "
                + "then by their earliest dates, then by their numbers");
        orderIs(sheets(5, 4, 3, 2, 1, 0), 0, 5, 4, 3, 2, 1, 0);
        orderIs(sheets(NOT_SEEN, 3, LOST, 0, OTHER_MOULD, 5), 0, 3, 1, 5);
        orderIs(sheets(-4, NOT_SEEN, -3, LOST, 0), 1, 2, 0);
        MouldMatcher x = sheets(1, 0);
        x.setDates(0, 0, 0);
        x.setDates(1, 9999, 9999);
        orderIs(x, 0, 1, 0);
    }

    private void orderByDate() {
        MouldMatcher x = sheets(2, 2, 2);
        firstDates(x, 1502, 1501, 1500);
        orderIs(x, 0, 2, 1, 0);
        lastDates(x, 1502, 1501, 1500);
        orderIs(x, 0, 0, 1, 2);
        firstDates(x, 1500, 9999, 0);
        orderIs(x, 0, 2, 0, 1);
        MouldMatcher pushed = sheets(2, 2, 1);
        firstDates(pushed, 1501, 1500, 1500);
        orderIs(pushed, 0, 2, 1, 0);
        firstDates(pushed, 1501, 1500, 1501);
        orderIs(pushed, 0, 2, 0, 1);
        firstDates(pushed, 1501, 1500, 1502);
        orderIs(pushed, 0, 2, 0, 1);
    }

    private void orderByNumber() {
        orderIs(sheets(3, 3, 3, 3), 0, 0, 1, 2, 3);
        MouldMatcher x = sheets(3, 3, 1, 3, 1);
        firstDates(x, 1500, 1500, 1500, 1499, 1499);
        orderIs(x, 0, 4, 2, 0, 1, 3);
        firstDates(x, 1500, 1500, 1498, 1499, 1498);
        orderIs(x, 0, 2, 4, 3, 0, 1);
    }

    /** Sheet k has the state 5 - k % 6: each state has five sheets. */
    private static MouldMatcher thirty() {
        MouldMatcher x = sheets();
        Checks.row(x, 400, 200, 220);
        for (int sheet = 0; sheet < 30; sheet++) {
            x.addSheet(0, 10 + 60 * (5 - sheet % 6), 20);
        }
        return x;
    }

    private void fullOrder() {
        doc.says(19, "the number of the sheet");
        MouldMatcher x = thirty();
        for (int place = 0; place < 30; place++) {
            int due = 5 - place / 5 + 6 * (place % 5);
            doc.due("place " + place + " of thirty", x.sheetAt(0, place), due);
        }
        doc.due("place 30 of thirty", x.sheetAt(0, 30), -6);
    }

    // ---- promises 20 and 21

    private void dateArguments() {
        MouldMatcher x = sheets(0, 1, 2);
        doc.says(20, "`sheet`: number of a sheet");
        doc.due("the first", x.earliest(0), 0);
        doc.due("the last", x.earliest(2), 0);
        doc.says(20, "NO_SUCH_SHEET");
        doc.due("no sheets", sheets().earliest(0), -2);
        doc.says(21, "`sheet`: number of a sheet");
        doc.due("the first", x.latest(0), 9999);
        doc.due("the last", x.latest(2), 9999);
        doc.says(21, "NO_SUCH_SHEET");
        doc.due("no sheets", sheets().latest(0), -2);
        for (int wrong : new int[] {-1, 3, 29, 30, Integer.MAX_VALUE, Integer.MIN_VALUE}) {
            doc.says(20, "NO_SUCH_SHEET");
            doc.due("sheet " + wrong, x.earliest(wrong), -2);
            doc.says(21, "NO_SUCH_SHEET");
            doc.due("sheet " + wrong, x.latest(wrong), -2);
        }
    }

    private void earliestOfLowerStates() {
        doc.says(0, "The earliest date of a sheet is the greatest one among its first possible date "
                + "and, if it has a state, the first possible dates of all sheets of its mould with "
                + "a lower state.");
        MouldMatcher x = sheets(0, 1, 5);
        firstDates(x, 1500, 1500, 1500);
        earliestAre(x, 1500, 1500, 1500);
        firstDates(x, 1501, 1500, 1500);
        earliestAre(x, 1501, 1501, 1501);
        firstDates(x, 1499, 1500, 1500);
        earliestAre(x, 1499, 1500, 1500);
        firstDates(x, 1500, 1501, 1500);
        earliestAre(x, 1500, 1501, 1501);
        firstDates(x, 1500, 1500, 1501);
        earliestAre(x, 1500, 1500, 1501);
        MouldMatcher same = sheets(2, 2, 2);
        firstDates(same, 1500, 1600, 1700);
        earliestAre(same, 1500, 1600, 1700);
        doc.says(20, "its earliest date");
        MouldMatcher several = sheets(5, 3, 3, 4, 0);
        firstDates(several, 1400, 1503, 1502, 1501, 1500);
        earliestAre(several, 1503, 1503, 1502, 1503, 1500);
    }

    private void latestOfGreaterStates() {
        doc.says(0, "The latest date of a sheet is the least one among its last possible date and, "
                + "if it has a state, the last possible dates of all sheets of its mould with a "
                + "greater state.");
        MouldMatcher x = sheets(0, 4, 5);
        lastDates(x, 1500, 1500, 1500);
        latestAre(x, 1500, 1500, 1500);
        lastDates(x, 1500, 1500, 1499);
        latestAre(x, 1499, 1499, 1499);
        lastDates(x, 1500, 1500, 1501);
        latestAre(x, 1500, 1500, 1501);
        lastDates(x, 1500, 1499, 1500);
        latestAre(x, 1499, 1499, 1500);
        lastDates(x, 1499, 1500, 1500);
        latestAre(x, 1499, 1500, 1500);
        MouldMatcher same = sheets(2, 2, 2);
        lastDates(same, 1500, 1600, 1700);
        latestAre(same, 1500, 1600, 1700);
        doc.says(21, "its latest date");
        MouldMatcher several = sheets(0, 3, 3, 1, 5);
        lastDates(several, 1600, 1503, 1502, 1504, 1505);
        latestAre(several, 1502, 1503, 1502, 1502, 1505);
    }

    private void sheetsThatDoNotCount() {
        doc.says(0, "Sheets that are assigned to the same mould and have states were made in the "
                + "order of their states.");
        MouldMatcher first = sheets(5, NOT_SEEN, LOST, OTHER_MOULD, -4, 0);
        firstDates(first, 1500, 1600, 1700, 1800, 1750, 1400);
        earliestAre(first, 1500, 1600, 1700, 1800, 1800, 1400);
        MouldMatcher last = sheets(0, NOT_SEEN, LOST, -4, OTHER_MOULD, 5);
        lastDates(last, 1800, 1600, 1500, 1400, 1450, 1900);
        latestAre(last, 1800, 1600, 1500, 1400, 1400, 1900);
        MouldMatcher alone = sheets(NOT_SEEN, 0, 5);
        alone.setDates(0, 1500, 1510);
        alone.setDates(1, 1600, 1610);
        alone.setDates(2, 1400, 1410);
        doc.due("a mark not seen has its own first date", alone.earliest(0), 1500);
        doc.due("and its own last date", alone.latest(0), 1510);
        MouldMatcher noMoulds = new MouldMatcher();
        Checks.row(noMoulds, 200, 210);
        noMoulds.addSheet(0, 0, 0);
        noMoulds.addSheet(1, 0, 0);
        noMoulds.setDates(0, 1500, 1510);
        doc.due("no moulds: first", noMoulds.earliest(0), 1500);
        doc.due("no moulds: last", noMoulds.latest(0), 1510);
        doc.due("no moulds: the other first", noMoulds.earliest(1), 0);
        doc.due("no moulds: the other last", noMoulds.latest(1), 9999);
    }

    private void farDates() {
        doc.says(20, "its earliest date");
        MouldMatcher x = sheets(0, 5);
        earliestAre(x, 0, 0);
        firstDates(x, 9999, 0);
        earliestAre(x, 9999, 9999);
        firstDates(x, 0, 9999);
        earliestAre(x, 0, 9999);
        doc.says(21, "its latest date");
        MouldMatcher y = sheets(0, 5);
        latestAre(y, 9999, 9999);
        lastDates(y, 9999, 0);
        latestAre(y, 0, 0);
        lastDates(y, 0, 9999);
        latestAre(y, 0, 9999);
    }

    private void earliestAfterLatest() {
        doc.says(0, "(The earliest date can be later than the latest one.)");
        MouldMatcher x = sheets(0, 5);
        x.setDates(0, 9000, 9999);
        x.setDates(1, 0, 1000);
        earliestAre(x, 9000, 9000);
        latestAre(x, 1000, 1000);
        doc.due("a later place all the same", x.sheetAt(0, 1), 1);
    }

    private void presentDates() {
        doc.says(0, "Assignments always follow the present moulds, states and tolerances.");
        MouldMatcher x = sheets(5, 0);
        x.setDates(0, 1400, 1410);
        x.setDates(1, 1500, 1510);
        doc.due("pushed", x.earliest(0), 1500);
        x.removeState(0);
        doc.due("without its state", x.earliest(0), 1400);
        doc.due("nobody is after it", x.latest(1), 1510);
        doc.due("one place", x.sheetAt(0, 1), -6);
        x.addState(0, 310, 20);
        doc.due("with its state again", x.earliest(0), 1500);
        doc.due("one is after it", x.latest(1), 1410);
        doc.due("two places", x.sheetAt(0, 1), 0);
        x.setTolerances(0, 0);
        doc.due("at the place itself", x.earliest(0), 1500);
        Checks.row(x, 400, 200, 220);
        x.addMould(0, 311, 20);
        x.setTolerances(0, 1);
        doc.due("a mould not so good", x.earliest(0), 1500);
        x.removeState(0);
        doc.due("assigned to it then", x.assignedMould(0), 2);
        doc.due("with its own dates", x.earliest(0), 1400);
    }

    // ---- promise 22

    private void contradictionArguments() {
        MouldMatcher x = sheets(0, 1, OTHER_MOULD, -4);
        firstDates(x, 9999, 0, 9999, 0);
        x.setDates(1, 0, 9998);
        x.setDates(3, 0, 9998);
        doc.says(22, "`mould`: number of a mould");
        doc.due("the first", x.contradictionCount(0), 1);
        doc.due("the last", x.contradictionCount(1), 1);
        doc.says(22, "NO_SUCH_MOULD");
        for (int wrong : WRONG_MOULDS) {
            doc.due("mould " + wrong, x.contradictionCount(wrong), -1);
        }
        doc.due("no moulds", new MouldMatcher().contradictionCount(0), -1);
    }

    private void contradictingDates() {
        doc.says(22, "one sheet has a lower state than the other one, and its first possible date "
                + "is later than the last possible date of the other one");
        MouldMatcher x = sheets(0, 1);
        x.setDates(0, 1500, 1600);
        x.setDates(1, 1400, 1501);
        doc.due("one before", x.contradictionCount(0), 0);
        x.setDates(1, 1400, 1500);
        doc.due("the same date", x.contradictionCount(0), 0);
        x.setDates(1, 1400, 1499);
        doc.due("one after", x.contradictionCount(0), 1);
        x.setDates(0, 9999, 9999);
        x.setDates(1, 0, 0);
        doc.due("the farthest", x.contradictionCount(0), 1);
        x.setDates(0, 0, 0);
        x.setDates(1, 9999, 9999);
        doc.due("in the right order", x.contradictionCount(0), 0);
        MouldMatcher turned = sheets(1, 0);
        turned.setDates(1, 1500, 1600);
        turned.setDates(0, 1400, 1499);
        doc.due("the greater state first", turned.contradictionCount(0), 1);
    }

    private void contradictingStates() {
        MouldMatcher same = sheets(3, 3);
        same.setDates(0, 1500, 1600);
        same.setDates(1, 1400, 1499);
        doc.due("the same state", same.contradictionCount(0), 0);
        int[] others = {NOT_SEEN, LOST, OTHER_MOULD, -4};
        for (int other : others) {
            MouldMatcher x = sheets(3, other);
            x.setDates(0, 1500, 1600);
            x.setDates(1, 1400, 1499);
            doc.due("later than one that does not count", x.contradictionCount(0), 0);
            x.setDates(1, 1700, 1800);
            doc.due("before one that does not count", x.contradictionCount(0), 0);
            doc.due("nor for the other mould", x.contradictionCount(1), 0);
        }
        MouldMatcher x = sheets(0, 5);
        x.setDates(0, 1500, 1600);
        x.setDates(1, 1400, 1499);
        doc.due("with its state", x.contradictionCount(0), 1);
        x.removeState(0);
        doc.due("without its state", x.contradictionCount(0), 0);
    }

    private void allContradictions() {
        doc.says(22, "the number of pairs");
        doc.due("no sheets", sheets().contradictionCount(0), 0);
        doc.due("one sheet", sheets(0).contradictionCount(0), 0);
        MouldMatcher x = thirty();
        doc.due("thirty with open dates", x.contradictionCount(0), 0);
        for (int sheet = 0; sheet < 30; sheet++) {
            int date = 1000 + 100 * (sheet % 6);
            x.setDates(sheet, date, date);
        }
        doc.due("all pairs but those of the same state", x.contradictionCount(0), 435 - 6 * 10);
        for (int sheet = 0; sheet < 30; sheet++) {
            x.setDates(sheet, 1000, 1000);
        }
        doc.due("all in one year", x.contradictionCount(0), 0);
        MouldMatcher three = sheets(0, 1, 2);
        three.setDates(0, 1500, 1500);
        three.setDates(1, 1400, 1400);
        three.setDates(2, 1450, 1450);
        doc.due("two of three pairs", three.contradictionCount(0), 2);
    }
}
