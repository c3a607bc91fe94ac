/** The limits of a new object, the row, the tolerances and the counts: promises 1 to 4 and 13. */
final class RowLimits {
    private static final int[] TEN = {100, 450, 110, 440, 120, 430, 130, 420, 140, 410};
    private final Sentences doc;

    RowLimits(Sentences doc) {
        this.doc = doc;
    }

    void run() {
        newObject();
        newTolerances();
        clearing();
        spacings();
        endOfRow();
        fullRow();
        rowStays();
        rangeOfSpacingTolerance();
        rangeOfMarkTolerance();
        changedTolerances();
        refusedTolerances();
        counts();
        lastCall();
    }

    private void newObject() {
        doc.says(1, "Creates a matcher without moulds and sheets, with an empty row, "
                + "the spacing tolerance 5 and the mark tolerance 20.");
        MouldMatcher x = new MouldMatcher();
        doc.due("moulds", x.count(0), 0);
        doc.due("sheets", x.count(1), 0);
        doc.due("numbers in the row", x.count(2), 0);
        doc.due("no mould 0", x.stateCount(0), -1);
        doc.due("no sheet 0", x.earliest(0), -2);
        doc.due("these are the tolerances", x.setTolerances(5, 20), 0);
        doc.due("not 4", new MouldMatcher().setTolerances(4, 20), 1);
        doc.due("not 6", new MouldMatcher().setTolerances(6, 20), 1);
        doc.due("not 19", new MouldMatcher().setTolerances(5, 19), 1);
        doc.due("not 21", new MouldMatcher().setTolerances(5, 21), 1);
    }

    /** Spacings 5 too wide leave no factor but 1000, and interval 0 no reversed orientation. */
    private void newTolerances() {
        MouldMatcher x = new MouldMatcher();
        Checks.row(x, 400, 400, 400);
        x.addMould(0, 200, 150);
        Checks.row(x, 405, 405, 405);
        doc.due("spacings 5 away", score(x, -1, 0, 0), 15);
        doc.due("a mark 20 to the right", score(x, 0, 220, 150), 35);
        doc.due("a mark 21 to the right", score(x, 0, 221, 150), -6);
        doc.due("a mark 20 to the left", score(x, 0, 180, 150), 35);
        doc.due("a mark 21 to the left", score(x, 0, 179, 150), -6);
        doc.due("a mark 20 above", score(x, 0, 200, 170), 35);
        doc.due("a mark 21 above", score(x, 0, 200, 171), -6);
        Checks.row(x, 405, 405, 406);
        doc.due("a spacing 6 away", score(x, -1, 0, 0), -6);
    }

    private static int score(MouldMatcher x, int interval, int markX, int markY) {
        return x.score(x.addSheet(interval, markX, markY), 0);
    }

    private void clearing() {
        doc.says(2, "how many numbers it had");
        MouldMatcher x = new MouldMatcher();
        doc.due("an empty row", x.clearRow(), 0);
        x.addToRow(300);
        doc.due("one number", x.clearRow(), 1);
        doc.due("none is left", x.clearRow(), 0);
        Checks.row(x, TEN);
        doc.due("a full row", x.clearRow(), 10);
        doc.due("none of ten is left", x.clearRow(), 0);
        doc.says(2, "Clears the row.");
        doc.due("numbers in the row", x.count(2), 0);
        doc.due("no sheet from nothing", x.addSheet(-1, 0, 0), -4);
        doc.due("there is room again", x.addToRow(100), 1);
        x.addToRow(100);
        doc.due("an old third number is gone for a mould", x.addMould(0, 0, 0), -4);
        doc.due("an old third number is gone for a sheet", x.addSheet(2, 0, 0), -3);
        doc.due("an old first number is gone", x.addSheet(0, 101, 0), -3);
    }

    private void spacings() {
        doc.says(3, "`spacing`: 100 to 450");
        MouldMatcher x = new MouldMatcher();
        doc.due("100", x.addToRow(100), 1);
        doc.due("101", x.addToRow(101), 2);
        doc.due("449", x.addToRow(449), 3);
        doc.due("450", x.addToRow(450), 4);
        doc.says(3, "BAD_VALUE");
        int[] wrong = {99, 451, 0, 1, -1, -100, -450, 1000, 65636, Integer.MAX_VALUE,
            Integer.MIN_VALUE, Integer.MIN_VALUE + 100};
        for (int spacing : wrong) {
            doc.due("spacing " + spacing, x.addToRow(spacing), -3);
            doc.due("not added: " + spacing, x.count(2), 4);
        }
    }

    private void endOfRow() {
        doc.says(3, "Adds a number at the end of the row.");
        MouldMatcher x = new MouldMatcher();
        Checks.row(x, 100, 300, 200);
        rowIs(x, 100, 300, 200);
        doc.says(3, "how many numbers the row has then");
        MouldMatcher other = new MouldMatcher();
        for (int k = 0; k < 10; k++) {
            doc.due("number " + k, other.addToRow(TEN[k]), k + 1);
            doc.due("count after number " + k, other.count(2), k + 1);
        }
    }

    /** The greatest x of a mark tells the number in the row; the last answers tell its length. */
    private void rowIs(MouldMatcher x, int... row) {
        doc.due("length of the row", x.count(2), row.length);
        for (int k = 0; k < row.length; k++) {
            doc.due("number " + k + " is not less", Math.min(0, x.addSheet(k, row[k], 0)), 0);
            doc.due("number " + k + " is not greater", x.addSheet(k, row[k] + 1, 0), -3);
        }
        doc.due("no number more", x.addSheet(row.length, 0, 0), -3);
    }

    private void fullRow() {
        doc.says(3, "FULL if it has 10 numbers");
        MouldMatcher x = new MouldMatcher();
        for (int k = 0; k < 9; k++) {
            x.addToRow(TEN[k]);
        }
        doc.due("a tenth", x.addToRow(TEN[9]), 10);
        doc.due("an eleventh", x.addToRow(300), -5);
        doc.due("the least", x.addToRow(100), -5);
        doc.due("the greatest", x.addToRow(450), -5);
        doc.due("BAD_VALUE comes first, 99", x.addToRow(99), -3);
        doc.due("BAD_VALUE comes first, 451", x.addToRow(451), -3);
        doc.says(0, "The matcher holds a row of at most 10 numbers");
        rowIs(x, TEN);
        doc.due("cleared", x.clearRow(), 10);
        doc.due("room again", x.addToRow(300), 1);
    }

    private void rowStays() {
        doc.says(0, "It stays as it is until it is cleared.");
        MouldMatcher x = new MouldMatcher();
        Checks.row(x, 100, 300, 200);
        doc.due("a mould", x.addMould(0, 0, 0), 0);
        rowIs(x, 100, 300, 200);
        doc.due("a sheet, after those of the last check", x.addSheet(-1, 0, 0), 3);
        x.setTolerances(1, 1);
        x.addState(0, 1, 1);
        x.removeState(0);
        x.setDates(0, 1, 2);
        x.assignedMould(0);
        rowIs(x, 100, 300, 200);
        doc.due("a number more", x.addToRow(450), 4);
        rowIs(x, 100, 300, 200, 450);
    }

    private void rangeOfSpacingTolerance() {
        doc.says(4, "`spacingTolerance`: 0 to 50");
        MouldMatcher x = new MouldMatcher();
        doc.due("0", x.setTolerances(0, 20), 1);
        doc.due("1", x.setTolerances(1, 20), 1);
        doc.due("49", x.setTolerances(49, 20), 1);
        doc.due("50", x.setTolerances(50, 20), 1);
        int[] wrong = {-1, 51, -50, 100, 1000, Integer.MAX_VALUE, Integer.MIN_VALUE};
        for (int tolerance : wrong) {
            doc.due("spacing tolerance " + tolerance, x.setTolerances(tolerance, 20), -3);
        }
        doc.due("still 50", x.setTolerances(50, 20), 0);
    }

    private void rangeOfMarkTolerance() {
        doc.says(4, "`markTolerance`: 0 to 100");
        MouldMatcher x = new MouldMatcher();
        doc.due("0", x.setTolerances(5, 0), 1);
        doc.due("1", x.setTolerances(5, 1), 1);
        doc.due("99", x.setTolerances(5, 99), 1);
        doc.due("100", x.setTolerances(5, 100), 1);
        int[] wrong = {-1, 101, -100, 1000, Integer.MAX_VALUE, Integer.MIN_VALUE};
        for (int tolerance : wrong) {
            doc.due("mark tolerance " + tolerance, x.setTolerances(5, tolerance), -3);
        }
        doc.due("still 100", x.setTolerances(5, 100), 0);
    }

    private void changedTolerances() {
        doc.says(4, "1 if this changed one of them, otherwise 0");
        MouldMatcher x = new MouldMatcher();
        doc.due("none at first", x.setTolerances(5, 20), 0);
        doc.due("the spacing tolerance", x.setTolerances(10, 20), 1);
        doc.due("the mark tolerance", x.setTolerances(10, 30), 1);
        doc.due("none", x.setTolerances(10, 30), 0);
        doc.due("both", x.setTolerances(30, 10), 1);
        doc.due("none again", x.setTolerances(30, 10), 0);
        doc.due("to the limits", x.setTolerances(50, 100), 1);
        doc.due("at the limits", x.setTolerances(50, 100), 0);
        doc.due("to nothing", x.setTolerances(0, 0), 1);
        doc.due("at nothing", x.setTolerances(0, 0), 0);
    }

    private void refusedTolerances() {
        doc.says(4, "BAD_VALUE");
        MouldMatcher x = new MouldMatcher();
        doc.due("the second is bad", x.setTolerances(6, 101), -3);
        doc.due("the first was not set", x.setTolerances(5, 20), 0);
        doc.due("the first is bad", x.setTolerances(51, 21), -3);
        doc.due("the second was not set", x.setTolerances(5, 20), 0);
        doc.due("both are bad", x.setTolerances(-1, -1), -3);
        doc.due("none was set", x.setTolerances(5, 20), 0);
    }

    private void counts() {
        doc.says(13, "`what`: 0 for moulds, 1 for sheets, 2 for numbers in the row");
        MouldMatcher x = new MouldMatcher();
        Checks.row(x, 200, 210, 220);
        x.addMould(0, 0, 0);
        x.addSheet(-1, 0, 0);
        x.addSheet(-1, 0, 0);
        doc.due("moulds", x.count(0), 1);
        doc.due("sheets", x.count(1), 2);
        doc.due("numbers", x.count(2), 3);
        doc.says(13, "BAD_VALUE");
        for (int wrong : new int[] {-1, 3, -6, 256, Integer.MAX_VALUE, Integer.MIN_VALUE}) {
            doc.due("what " + wrong, x.count(wrong), -3);
        }
        doc.says(13, "how many there are");
        for (int k = 0; k < 40; k++) {
            x.addToRow(300);
            x.addMould(0, 0, 0);
            x.addSheet(-1, 0, 0);
        }
        doc.due("all moulds", x.count(0), 10);
        doc.due("all sheets", x.count(1), 30);
        doc.due("all numbers", x.count(2), 10);
        x.clearRow();
        doc.due("moulds without a row", x.count(0), 10);
        doc.due("sheets without a row", x.count(1), 30);
        doc.due("an empty row", x.count(2), 0);
    }

    private void lastCall() {
        doc.says(0, "An object is used for at most 512 calls after it has been made; "
                + "what later calls answer is free.");
        MouldMatcher x = new MouldMatcher();
        for (int call = 1; call < 512; call++) {
            int due = call % 11 == 0 ? 10 : call % 11;
            doc.due("call " + call, call % 11 == 0 ? x.clearRow() : x.addToRow(300), due);
        }
        doc.due("call 512", x.count(2), 511 % 11);
        for (int call = 513; call < 2000; call++) {
            x.addToRow(300);
            x.addMould(call % 3, 0, 0);
            x.addSheet(call % 3, 0, 0);
            x.sheetAt(0, call);
        }
    }
}
