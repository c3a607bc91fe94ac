/** The limits of sheets and their possible dates: promises 11 and 12. */
final class SheetLimits {
    private static final int[] TEN = {100, 450, 110, 440, 120, 430, 130, 420, 140, 410};
    private static final int[] FAR = {Integer.MIN_VALUE, -1000, -7, 1000, Integer.MAX_VALUE};
    private final Sentences doc;

    SheetLimits(Sentences doc) {
        this.doc = doc;
    }

    void run() {
        shortRow();
        intervals();
        marks();
        notSeen();
        refusedSheets();
        allSheets();
        spacingsAreKept();
        dateSheets();
        firstDates();
        lastDates();
        changedDates();
        refusedDates();
        datesAtFirst();
    }

    // ---- promise 11

    private void shortRow() {
        doc.says(11, "BAD_ROW if the row has fewer than 2 numbers");
        MouldMatcher x = new MouldMatcher();
        doc.due("0 numbers", x.addSheet(-1, 0, 0), -4);
        x.addToRow(200);
        doc.due("1 number, the mark not seen", x.addSheet(-1, 0, 0), -4);
        doc.due("1 number, the mark seen", x.addSheet(0, 0, 0), -4);
        doc.due("before BAD_VALUE: interval", x.addSheet(-2, 0, 0), -4);
        doc.due("before BAD_VALUE: x", x.addSheet(0, 201, 0), -4);
        doc.due("before BAD_VALUE: y", x.addSheet(0, 0, 301), -4);
        doc.due("no sheet", x.count(1), 0);
        x.addToRow(200);
        doc.due("2 numbers", x.addSheet(0, 0, 0), 0);
        doc.says(0, "A sheet has 2 to 10 measured spacings.");
        Checks.row(x, 200);
        doc.due("1 spacing", x.addSheet(0, 0, 0), -4);
        Checks.row(x, 200, 210);
        doc.due("2 spacings", x.addSheet(1, 210, 0), 1);
        Checks.row(x, TEN);
        doc.due("10 spacings", x.addSheet(9, 410, 0), 2);
        x.addMould(9, 410, 0);
        doc.due("all ten of them", x.score(2, 0), 0);
    }

    private void intervals() {
        doc.says(11, "`interval`: interval in which the mark was seen, from 0, "
                + "or -1 if it was not seen");
        MouldMatcher x = new MouldMatcher();
        Checks.row(x, 200, 210);
        doc.due("-2", x.addSheet(-2, 0, 0), -3);
        doc.due("-1", x.addSheet(-1, 0, 0), 0);
        doc.due("0 of 2", x.addSheet(0, 0, 0), 1);
        doc.due("1 of 2", x.addSheet(1, 0, 0), 2);
        doc.due("2 of 2", x.addSheet(2, 0, 0), -3);
        Checks.row(x, TEN);
        doc.due("9 of 10", x.addSheet(9, 0, 0), 3);
        doc.due("10 of 10", x.addSheet(10, 0, 0), -3);
        Checks.row(x, 200, 210);
        doc.due("2 of 2, after a longer row", x.addSheet(2, 0, 0), -3);
        for (int far : FAR) {
            doc.due("interval " + far, x.addSheet(far, 0, 0), -3);
        }
    }

    private void marks() {
        doc.says(11, "`x`: x of the mark, 0 to the spacing of this interval; "
                + "not used if interval is -1");
        MouldMatcher x = new MouldMatcher();
        Checks.row(x, 450, 100, 449);
        doc.due("-1", x.addSheet(1, -1, 0), -3);
        doc.due("0", x.addSheet(1, 0, 0), 0);
        doc.due("100 of 100", x.addSheet(1, 100, 0), 1);
        doc.due("101 of 100, between wider intervals", x.addSheet(1, 101, 0), -3);
        doc.due("450 of 450", x.addSheet(0, 450, 0), 2);
        doc.due("451 of 450", x.addSheet(0, 451, 0), -3);
        doc.due("449 of 449", x.addSheet(2, 449, 0), 3);
        doc.due("450 of 449", x.addSheet(2, 450, 0), -3);
        doc.due("-1, not used", x.addSheet(-1, -1, 0), 4);
        doc.due("451, not used", x.addSheet(-1, 451, 0), 5);
        doc.due("the least, not used", x.addSheet(-1, Integer.MIN_VALUE, 0), 6);
        doc.due("the greatest, not used", x.addSheet(-1, Integer.MAX_VALUE, 0), 7);
        doc.says(11, "`y`: y of the mark, 0 to 300; not used if interval is -1");
        doc.due("-1", x.addSheet(0, 0, -1), -3);
        doc.due("0", x.addSheet(0, 0, 0), 8);
        doc.due("300", x.addSheet(0, 0, 300), 9);
        doc.due("301", x.addSheet(0, 0, 301), -3);
        doc.due("-1, not used", x.addSheet(-1, 0, -1), 10);
        doc.due("301, not used", x.addSheet(-1, 0, 301), 11);
        doc.due("the least, not used", x.addSheet(-1, 0, Integer.MIN_VALUE), 12);
        doc.due("the greatest, not used", x.addSheet(-1, 0, Integer.MAX_VALUE), 13);
    }

    private void notSeen() {
        doc.says(0, "or not seen, which tells nothing");
        MouldMatcher x = new MouldMatcher();
        x.setTolerances(0, 0);
        Checks.row(x, 200, 240, 220);
        x.addMould(0, 10, 10);
        Checks.row(x, 240, 220);
        int[] positions = {0, -1, Integer.MIN_VALUE, Integer.MAX_VALUE};
        for (int sheet = 0; sheet < positions.length; sheet++) {
            x.addSheet(-1, positions[sheet], positions[sheet]);
            doc.due("fits beside the watermark", x.score(sheet, 0), 0);
            doc.due("without a state", x.placement(sheet, 0, 3), -6);
        }
        doc.due("a seen one does not", x.score(x.addSheet(0, 10, 10), 0), -6);
    }

    private void refusedSheets() {
        doc.says(11, "BAD_VALUE");
        MouldMatcher x = new MouldMatcher();
        Checks.row(x, 300, 100);
        for (int far : FAR) {
            doc.due("interval " + far, x.addSheet(far, 0, 0), -3);
            doc.due("x " + far, x.addSheet(0, far, 0), -3);
            doc.due("y " + far, x.addSheet(0, 0, far), -3);
        }
        doc.due("none was added", x.count(1), 0);
        doc.due("the row is as it was", x.count(2), 2);
        doc.due("the first number is still to come", x.addSheet(0, 0, 0), 0);
    }

    private void allSheets() {
        doc.says(11, "the number of the sheet");
        MouldMatcher x = new MouldMatcher();
        Checks.row(x, 200, 210);
        for (int sheet = 0; sheet < 30; sheet++) {
            doc.due("sheet " + sheet, x.addSheet(sheet % 3 - 1, 0, 0), sheet);
        }
        doc.says(11, "FULL if there are 30 sheets");
        doc.due("a thirty-first", x.addSheet(0, 0, 0), -5);
        doc.due("the mark not seen", x.addSheet(-1, 0, 0), -5);
        doc.due("BAD_VALUE comes first: interval", x.addSheet(2, 0, 0), -3);
        doc.due("BAD_VALUE comes first: x", x.addSheet(0, 201, 0), -3);
        doc.due("BAD_VALUE comes first: y", x.addSheet(0, 0, 301), -3);
        Checks.row(x, 200);
        doc.due("BAD_ROW comes first", x.addSheet(0, 0, 0), -4);
        doc.due("BAD_ROW comes first of all", x.addSheet(2, 0, 0), -4);
        doc.says(0, "There are up to 30 sheets, numbered from 0 in order of addition.");
        doc.due("thirty sheets", x.count(1), 30);
        doc.due("the last one", x.setDates(29, 1, 2), 1);
        doc.due("no sheet 30", x.setDates(30, 1, 2), -2);
        doc.due("the last one has its dates", x.earliest(29), 1);
        doc.due("the first one has not", x.earliest(0), 0);
        doc.due("the one before has not", x.earliest(28), 0);
    }

    private void spacingsAreKept() {
        doc.says(11, "Adds a sheet with the spacings of the row.");
        MouldMatcher x = new MouldMatcher();
        x.setTolerances(0, 0);
        Checks.row(x, 200, 240, 220);
        x.addMould(1, 7, 8);
        x.addSheet(1, 7, 8);
        Checks.row(x, 300, 300, 300);
        x.addSheet(1, 7, 8);
        doc.due("another row does not change the sheet", x.score(0, 0), 0);
        doc.due("the other sheet has its own", x.score(1, 0), -6);
        x.clearRow();
        doc.due("nor does an empty row", x.score(0, 0), 0);
    }

    // ---- promise 12

    private static MouldMatcher sheets(int number) {
        MouldMatcher x = new MouldMatcher();
        Checks.row(x, 200, 210);
        for (int sheet = 0; sheet < number; sheet++) {
            x.addSheet(-1, 0, 0);
        }
        return x;
    }

    private void dateSheets() {
        doc.says(12, "`sheet`: number of a sheet");
        MouldMatcher x = sheets(3);
        doc.due("the first", x.setDates(0, 1, 2), 1);
        doc.due("the last", x.setDates(2, 1, 2), 1);
        doc.says(12, "NO_SUCH_SHEET");
        doc.due("no sheets", sheets(0).setDates(0, 1, 2), -2);
        for (int wrong : new int[] {-1, 3, 29, 30, Integer.MAX_VALUE, Integer.MIN_VALUE}) {
            doc.due("sheet " + wrong, x.setDates(wrong, 1, 2), -2);
            doc.due("before BAD_VALUE, sheet " + wrong, x.setDates(wrong, 2, 1), -2);
            doc.due("before BAD_VALUE, sheet " + wrong, x.setDates(wrong, -1, 10000), -2);
        }
        doc.due("the sheet between is as it was", x.setDates(1, 0, 9999), 0);
    }

    private void firstDates() {
        doc.says(12, "`first`: the first possible date, 0 to 9999");
        MouldMatcher x = sheets(1);
        doc.due("-1", x.setDates(0, -1, 9999), -3);
        doc.due("1", x.setDates(0, 1, 9999), 1);
        doc.due("0", x.setDates(0, 0, 9999), 1);
        doc.due("9999", x.setDates(0, 9999, 9999), 1);
        doc.due("10000", x.setDates(0, 10000, 9999), -3);
        doc.due("10000 to 10000", x.setDates(0, 10000, 10000), -3);
        doc.due("-1 to -1", x.setDates(0, -1, -1), -3);
        doc.due("it is 9999", x.earliest(0), 9999);
    }

    private void lastDates() {
        doc.says(12, "`last`: the last possible date, first to 9999");
        MouldMatcher x = sheets(1);
        doc.due("one before first", x.setDates(0, 1500, 1499), -3);
        doc.due("first", x.setDates(0, 1500, 1500), 1);
        doc.due("one after first", x.setDates(0, 1500, 1501), 1);
        doc.due("9999", x.setDates(0, 1500, 9999), 1);
        doc.due("10000", x.setDates(0, 1500, 10000), -3);
        doc.due("it is 9999", x.latest(0), 9999);
        doc.due("0 to 0", x.setDates(0, 0, 0), 1);
        doc.due("0 to -1", x.setDates(0, 0, -1), -3);
        doc.due("it is 0", x.latest(0), 0);
        doc.due("9999 to 9998", x.setDates(0, 9999, 9998), -3);
        doc.due("an earlier last than before", x.setDates(0, 5, 9), 1);
        doc.due("a first later than the last before", x.setDates(0, 10, 20), 1);
    }

    private void changedDates() {
        doc.says(12, "1 if this changed one of them, otherwise 0");
        MouldMatcher x = sheets(2);
        doc.due("none at first", x.setDates(0, 0, 9999), 0);
        doc.due("the first date", x.setDates(0, 10, 9999), 1);
        doc.due("the last date", x.setDates(0, 10, 20), 1);
        doc.due("none", x.setDates(0, 10, 20), 0);
        doc.due("both", x.setDates(0, 11, 21), 1);
        doc.due("none again", x.setDates(0, 11, 21), 0);
        doc.due("another sheet", x.setDates(1, 11, 21), 1);
        doc.due("back to the first", x.setDates(0, 0, 9999), 1);
    }

    private void refusedDates() {
        doc.says(12, "BAD_VALUE");
        MouldMatcher x = sheets(1);
        x.setDates(0, 10, 20);
        int[] wrong = {-1, 10000, Integer.MAX_VALUE, Integer.MIN_VALUE};
        for (int date : wrong) {
            doc.due("first " + date, x.setDates(0, date, 30), -3);
            doc.due("last " + date, x.setDates(0, 5, date), -3);
            doc.due("both " + date, x.setDates(0, date, date), -3);
        }
        doc.due("from the least to the greatest",
                x.setDates(0, Integer.MIN_VALUE, Integer.MAX_VALUE), -3);
        doc.due("the first date is as it was", x.earliest(0), 10);
        doc.due("the last date is as it was", x.latest(0), 20);
    }

    private void datesAtFirst() {
        doc.says(0, "A sheet has a first and a last possible date, 0 and 9999 at first.");
        MouldMatcher x = sheets(30);
        for (int sheet = 0; sheet < 30; sheet++) {
            doc.due("the first date of sheet " + sheet, x.earliest(sheet), 0);
            doc.due("the last date of sheet " + sheet, x.latest(sheet), 9999);
        }
    }
}
