/** Each promise of the document: ordinary inputs, the edges it names, and wrong inputs. */
public final class PromisesTest {
    private static final int[] FAR = {Integer.MIN_VALUE, -7, -2, -1, 1000, Integer.MAX_VALUE};
    private static final Checks CHECKS = new Checks();

    public static void main(String[] args) {
        newObject();
        rowOfNumbers();
        tolerances();
        tolerancesDecide();
        addingMoulds();
        states();
        twins();
        addingSheets();
        dates();
        counts();
        scores();
        preferredPlacements();
        orientations();
        fittingStates();
        rounding();
        assignments();
        rivals();
        sheetSets();
        order();
        earliestAndLatest();
        contradictions();
        questionsAboutNothing();
        fullHouse();
        twoObjects();
        CHECKS.end();
    }

    private static void due(String call, int got, int want) {
        CHECKS.due(call, got, want);
    }

    /** A mould 200, 230, 210 with states at X 40, 90 and 140 in its last interval. */
    private static MouldMatcher threeStates() {
        MouldMatcher x = new MouldMatcher();
        Checks.row(x, 200, 230, 210);
        x.addMould(2, 40, 100);
        x.addState(0, 90, 100);
        x.addState(0, 140, 100);
        Checks.row(x, 230, 210);
        return x;
    }

    private static void newObject() {
        MouldMatcher x = new MouldMatcher();
        due("1: moulds", x.count(0), 0);
        due("1: sheets", x.count(1), 0);
        due("1: row", x.count(2), 0);
        due("1: tolerances are 5 and 20", x.setTolerances(5, 20), 0);
    }

    private static void rowOfNumbers() {
        MouldMatcher x = new MouldMatcher();
        due("2: clear an empty row", x.clearRow(), 0);
        due("3: 99", x.addToRow(99), -3);
        due("3: 451", x.addToRow(451), -3);
        for (int wrong : FAR) {
            due("3: " + wrong, x.addToRow(wrong), -3);
        }
        due("3: nothing was added", x.count(2), 0);
        for (int k = 1; k <= 10; k++) {
            due("3: number " + k, x.addToRow(k % 2 == 0 ? 100 : 450), k);
        }
        due("3: an eleventh number", x.addToRow(100), -5);
        due("3: BAD_VALUE before FULL", x.addToRow(99), -3);
        due("3: still ten", x.count(2), 10);
        due("2: clear ten", x.clearRow(), 10);
        due("2: clear again", x.clearRow(), 0);
        due("3: from the start", x.addToRow(100), 1);
    }

    private static void tolerances() {
        MouldMatcher x = new MouldMatcher();
        due("4: one changed", x.setTolerances(6, 20), 1);
        due("4: the other changed", x.setTolerances(6, 21), 1);
        due("4: none changed", x.setTolerances(6, 21), 0);
        due("4: least", x.setTolerances(0, 0), 1);
        due("4: greatest", x.setTolerances(50, 100), 1);
        due("4: 51", x.setTolerances(51, 100), -3);
        due("4: 101", x.setTolerances(50, 101), -3);
        due("4: -1", x.setTolerances(-1, 100), -3);
        due("4: mark -1", x.setTolerances(50, -1), -3);
        due("4: one good, one bad", x.setTolerances(3, 101), -3);
        due("4: an error changes nothing", x.setTolerances(50, 100), 0);
    }

    private static void tolerancesDecide() {
        MouldMatcher x = new MouldMatcher();
        Checks.row(x, 200, 230, 210);
        x.addMould(0, 100, 150);
        Checks.row(x, 205, 235, 215);
        due("4: a sheet at the tolerance", x.addSheet(0, 120, 150), 0);
        due("4: deviations 5, 5, 5 and 20", x.score(0, 0), 35);
        due("4: narrower marks", x.setTolerances(5, 19), 1);
        due("4: the mark is too far", x.score(0, 0), -6);
        due("4: narrower spacings", x.setTolerances(4, 20), 1);
        due("4: the spacings are too far", x.score(0, 0), -6);
        due("4: back", x.setTolerances(5, 20), 1);
        due("4: possible again", x.score(0, 0), 35);
        Checks.row(x, 200, 230, 210);
        due("4: far in y only", x.addSheet(0, 100, 171), 1);
        due("4: no other factor than 1000", x.setTolerances(0, 20), 1);
        due("4: 21 in y, and 300 - 171 is 21 away too", x.score(1, 0), -6);
        due("4: wider marks", x.setTolerances(0, 21), 1);
        due("4: fits now", x.score(1, 0), 21);
    }

    private static void addingMoulds() {
        MouldMatcher x = new MouldMatcher();
        due("5: an empty row", x.addMould(0, 0, 0), -4);
        Checks.row(x, 100, 200);
        due("5: two numbers", x.addMould(0, 0, 0), -4);
        due("5: BAD_ROW before BAD_VALUE", x.addMould(-1, 0, 0), -4);
        x.addToRow(300);
        due("5: interval 3", x.addMould(3, 0, 0), -3);
        due("5: interval -1", x.addMould(-1, 0, 0), -3);
        for (int wrong : FAR) {
            due("5: interval " + wrong, x.addMould(wrong, 0, 0), -3);
            due("5: x " + wrong, x.addMould(0, wrong, 0), -3);
            due("5: y " + wrong, x.addMould(0, 0, wrong), -3);
        }
        due("5: x beyond its interval", x.addMould(1, 201, 0), -3);
        due("5: y beyond 300", x.addMould(1, 200, 301), -3);
        due("5: none was added", x.count(0), 0);
        due("5: the greatest values", x.addMould(2, 300, 300), 0);
        due("5: the least values", x.addMould(0, 0, 0), 1);
        due("5: the row stays", x.count(2), 3);
        for (int k = 2; k < 10; k++) {
            due("5: mould " + k, x.addMould(1, 5, 5), k);
        }
        due("5: an eleventh", x.addMould(1, 5, 5), -5);
        due("5: BAD_VALUE before FULL", x.addMould(1, 201, 0), -3);
        Checks.row(x, 100, 200);
        due("5: BAD_ROW before FULL", x.addMould(1, 5, 5), -4);
        due("5: ten moulds", x.count(0), 10);
        due("5: no mould 10", x.stateCount(10), -1);
    }

    private static void states() {
        MouldMatcher x = new MouldMatcher();
        due("6: no mould", x.addState(0, 0, 0), -1);
        due("7: no mould", x.removeState(0), -1);
        due("8: no mould", x.stateCount(0), -1);
        Checks.row(x, 100, 200, 300);
        x.addMould(1, 10, 10);
        x.addMould(1, 10, 10);
        Checks.row(x, 450, 450, 450);
        for (int wrong : FAR) {
            due("6: mould " + wrong, x.addState(wrong, 0, 0), -1);
            due("6: x " + wrong, x.addState(0, wrong, 0), -3);
            due("6: y " + wrong, x.addState(0, 0, wrong), -3);
            due("7: mould " + wrong, x.removeState(wrong), -1);
            due("8: mould " + wrong, x.stateCount(wrong), -1);
        }
        due("6: NO_SUCH_MOULD before BAD_VALUE", x.addState(2, -1, -1), -1);
        due("6: beyond the spacing of the mould", x.addState(0, 201, 0), -3);
        due("6: y 301", x.addState(0, 0, 301), -3);
        due("8: one state", x.stateCount(0), 1);
        due("7: the only state", x.removeState(0), -6);
        due("8: still one state", x.stateCount(0), 1);
        for (int k = 1; k < 6; k++) {
            due("6: state " + k, x.addState(0, k % 2 * 200, k % 2 * 300), k);
        }
        due("6: a seventh", x.addState(0, 0, 0), -5);
        due("6: BAD_VALUE before FULL", x.addState(0, 201, 0), -3);
        due("8: six states", x.stateCount(0), 6);
        due("8: the other mould has one", x.stateCount(1), 1);
        for (int left = 5; left >= 1; left--) {
            due("7: left " + left, x.removeState(0), left);
            due("8: left " + left, x.stateCount(0), left);
        }
        due("7: none is left to remove", x.removeState(0), -6);
        due("6: state 1 again", x.addState(0, 7, 7), 1);
    }

    private static void twins() {
        MouldMatcher x = new MouldMatcher();
        due("9: no moulds, both the same", x.areTwins(0, 0), -1);
        due("10: no moulds, both the same", x.twinDifference(0, 0), -1);
        Checks.row(x, 200, 230, 210);
        x.addMould(1, 50, 60);
        Checks.row(x, 200, 235, 206);
        x.addMould(1, 53, 58);
        Checks.row(x, 200, 236, 210);
        x.addMould(1, 50, 60);
        Checks.row(x, 200, 230, 210);
        x.addMould(2, 50, 60);
        Checks.row(x, 200, 230, 210, 200);
        x.addMould(1, 50, 60);
        Checks.row(x, 200, 230, 210);
        x.addMould(1, 50, 260);
        x.addMould(1, 150, 61);
        x.addMould(1, 50, 60);
        Checks.row(x, 206, 230, 210);
        x.addMould(1, 50, 60);
        due("9: at the tolerance", x.areTwins(0, 1), 1);
        due("9: the other way", x.areTwins(1, 0), 1);
        due("10: of the spacings", x.twinDifference(1, 0), 5);
        due("9: beyond the tolerance", x.areTwins(0, 2), 0);
        due("10: beyond the tolerance", x.twinDifference(0, 2), -6);
        due("9: another interval", x.areTwins(0, 3), 0);
        due("10: another interval", x.twinDifference(0, 3), -6);
        due("9: another number of spacings", x.areTwins(0, 4), 0);
        due("9: another number of spacings, the other way", x.areTwins(4, 0), 0);
        due("10: another number of spacings", x.twinDifference(0, 4), -6);
        due("10: of Y", x.twinDifference(0, 5), 200);
        due("10: of Y, the other way", x.twinDifference(5, 0), 200);
        due("10: of X", x.twinDifference(6, 0), 100);
        due("10: of X, the other way", x.twinDifference(0, 6), 100);
        due("9: just alike", x.areTwins(0, 7), 1);
        due("10: just alike", x.twinDifference(0, 7), 0);
        due("9: the first spacing differs", x.areTwins(0, 8), 0);
        due("9: both the same", x.areTwins(3, 3), -3);
        due("10: both the same", x.twinDifference(3, 3), -3);
        due("9: NO_SUCH_MOULD before BAD_VALUE", x.areTwins(9, 9), -1);
        for (int wrong : FAR) {
            due("9: first " + wrong, x.areTwins(wrong, 0), -1);
            due("9: second " + wrong, x.areTwins(0, wrong), -1);
            due("10: first " + wrong, x.twinDifference(wrong, 0), -1);
            due("10: second " + wrong, x.twinDifference(0, wrong), -1);
        }
        x.addState(0, 200, 0);
        due("10: state 0 alone", x.twinDifference(0, 1), 5);
        x.setTolerances(4, 20);
        due("9: with the present tolerance", x.areTwins(0, 1), 0);
        x.setTolerances(6, 0);
        due("9: with a wider one", x.areTwins(0, 2), 1);
        due("10: with a wider one", x.twinDifference(0, 2), 6);
    }

    private static void addingSheets() {
        MouldMatcher x = new MouldMatcher();
        due("11: an empty row", x.addSheet(-1, 0, 0), -4);
        x.addToRow(100);
        due("11: one number", x.addSheet(-1, 0, 0), -4);
        due("11: BAD_ROW before BAD_VALUE", x.addSheet(-2, 0, 0), -4);
        x.addToRow(450);
        due("11: interval -2", x.addSheet(-2, 0, 0), -3);
        due("11: interval 2", x.addSheet(2, 0, 0), -3);
        due("11: least interval", x.addSheet(Integer.MIN_VALUE, 0, 0), -3);
        due("11: greatest interval", x.addSheet(Integer.MAX_VALUE, 0, 0), -3);
        for (int wrong : FAR) {
            due("11: x " + wrong, x.addSheet(0, wrong, 0), -3);
            due("11: y " + wrong, x.addSheet(0, 0, wrong), -3);
        }
        due("11: x beyond its interval", x.addSheet(0, 101, 0), -3);
        due("11: y 301", x.addSheet(0, 0, 301), -3);
        due("11: none was added", x.count(1), 0);
        due("11: the greatest values", x.addSheet(1, 450, 300), 0);
        due("11: x and y not used", x.addSheet(-1, Integer.MIN_VALUE, Integer.MAX_VALUE), 1);
        due("11: the row stays", x.count(2), 2);
        for (int k = 2; k < 30; k++) {
            due("11: sheet " + k, x.addSheet(0, 0, 0), k);
        }
        due("11: a thirty-first", x.addSheet(0, 0, 0), -5);
        due("11: BAD_VALUE before FULL", x.addSheet(0, 101, 0), -3);
        x.clearRow();
        due("11: BAD_ROW before FULL", x.addSheet(0, 0, 0), -4);
        due("11: thirty sheets", x.count(1), 30);
    }

    private static void dates() {
        MouldMatcher x = new MouldMatcher();
        due("12: no sheet", x.setDates(0, 1, 2), -2);
        Checks.row(x, 100, 200);
        x.addSheet(-1, 0, 0);
        for (int wrong : FAR) {
            due("12: sheet " + wrong, x.setDates(wrong, 1, 2), -2);
        }
        due("12: NO_SUCH_SHEET before BAD_VALUE", x.setDates(1, 2, 1), -2);
        due("12: 0 and 9999 at first", x.setDates(0, 0, 9999), 0);
        due("12: first -1", x.setDates(0, -1, 5), -3);
        due("12: first 10000", x.setDates(0, 10000, 10000), -3);
        due("12: last 10000", x.setDates(0, 0, 10000), -3);
        due("12: last before first", x.setDates(0, 10, 9), -3);
        due("12: last far before", x.setDates(0, 10, Integer.MIN_VALUE), -3);
        due("12: nothing changed", x.setDates(0, 0, 9999), 0);
        due("12: first changed", x.setDates(0, 1, 9999), 1);
        due("12: last changed", x.setDates(0, 1, 1), 1);
        due("12: neither changed", x.setDates(0, 1, 1), 0);
        due("12: the greatest", x.setDates(0, 9999, 9999), 1);
        due("20: unassigned", x.earliest(0), 9999);
        due("21: unassigned", x.latest(0), 9999);
    }

    private static void counts() {
        MouldMatcher x = new MouldMatcher();
        Checks.row(x, 100, 200, 300);
        x.addMould(0, 0, 0);
        x.addSheet(-1, 0, 0);
        x.addSheet(-1, 0, 0);
        due("13: moulds", x.count(0), 1);
        due("13: sheets", x.count(1), 2);
        due("13: row", x.count(2), 3);
        due("13: 3", x.count(3), -3);
        for (int wrong : FAR) {
            due("13: " + wrong, x.count(wrong), -3);
        }
    }

    private static void scores() {
        MouldMatcher x = new MouldMatcher();
        due("14: nothing at all", x.score(0, 0), -2);
        due("15: nothing at all", x.placement(0, 0, 9), -2);
        Checks.row(x, 200, 230, 210);
        x.addMould(0, 50, 60);
        Checks.row(x, 200, 230, 210, 240);
        x.addSheet(-1, 0, 0);
        Checks.row(x, 230, 210);
        x.addSheet(0, 50, 60);
        x.addSheet(-1, 0, 0);
        due("14: more spacings than the mould", x.score(0, 0), -6);
        due("14: the mark in another interval", x.score(1, 0), -6);
        due("14: the mark was not seen", x.score(2, 0), 0);
        due("15: its offset", x.placement(2, 0, 1), 1);
        due("15: its state", x.placement(2, 0, 3), -6);
        for (int wrong : FAR) {
            due("14: sheet " + wrong, x.score(wrong, 0), -2);
            due("14: mould " + wrong, x.score(0, wrong), -1);
            due("15: sheet " + wrong, x.placement(wrong, 0, 0), -2);
            due("15: mould " + wrong, x.placement(0, wrong, 0), -1);
            due("15: what " + wrong, x.placement(2, 0, wrong), -3);
        }
        due("14: NO_SUCH_SHEET first", x.score(3, 1), -2);
        due("15: NO_SUCH_SHEET first", x.placement(3, 1, 4), -2);
        due("15: then NO_SUCH_MOULD", x.placement(2, 1, 4), -1);
        due("15: then BAD_VALUE", x.placement(0, 0, 4), -3);
        for (int what = 0; what < 4; what++) {
            due("15: no possible placement, " + what, x.placement(0, 0, what), -6);
        }
    }

    private static void preferredPlacements() {
        MouldMatcher x = new MouldMatcher();
        Checks.row(x, 200, 200, 200, 200);
        x.addMould(1, 100, 150);
        Checks.row(x, 200, 200);
        x.addSheet(-1, 0, 0);
        partsAre(x, "15: all equal", 0, 0, 0, 1000, -6);
        x.addSheet(0, 100, 150);
        partsAre(x, "15: the lowest orientation before the lowest offset", 1, 0, 1, 1000, 0);
        Checks.row(x, 199, 199);
        x.addSheet(-1, 0, 0);
        due("14: an exact factor", x.score(2, 0), 0);
        partsAre(x, "15: an exact factor", 2, 0, 0, 995, -6);
        Checks.row(x, 188, 188);
        x.addSheet(-1, 0, 0);
        due("14: the least factor", x.score(3, 0), 0);
        partsAre(x, "15: the least factor", 3, 0, 0, 940, -6);
        Checks.row(x, 180, 180);
        x.addSheet(-1, 0, 0);
        due("14: beyond the least factor and the tolerance", x.score(4, 0), -6);
        Checks.row(x, 205, 205);
        x.addSheet(-1, 0, 0);
        due("14: no factor above 1000", x.score(5, 0), 10);
        // 200 * 1000 / 1000 = 200 and 200 * 995 / 1000 = 199 both leave one tenth.
        Checks.row(x, 200, 199);
        x.addSheet(-1, 0, 0);
        due("14: 1000 and 995 score alike", x.score(6, 0), 1);
        partsAre(x, "15: the greatest factor of several", 6, 0, 0, 1000, -6);
    }

    private static void partsAre(MouldMatcher x, String what, int sheet, int... parts) {
        for (int k = 0; k < 4; k++) {
            due(what + ", part " + k, x.placement(sheet, 0, k), parts[k]);
        }
    }

    private static void orientations() {
        MouldMatcher x = new MouldMatcher();
        Checks.row(x, 200, 240, 220, 260);
        x.addMould(1, 30, 40);
        Checks.row(x, 240, 220);
        x.addSheet(0, 31, 42);
        x.addSheet(0, 31, 258);
        Checks.row(x, 220, 240);
        x.addSheet(1, 209, 258);
        x.addSheet(1, 209, 42);
        int[] due = {0, 3, 1, 2};
        for (int sheet = 0; sheet < 4; sheet++) {
            due("14: sheet " + sheet, x.score(sheet, 0), 3);
            partsAre(x, "15: sheet " + sheet, sheet, due[sheet], 1, 1000, 0);
        }
        x.addSheet(1, 31, 42);
        due("14: the mark at the wrong side", x.score(4, 0), -6);
        x.addSheet(0, 31, 42);
        due("14: the mark in the wrong interval", x.score(5, 0), -6);
    }

    private static void fittingStates() {
        MouldMatcher x = threeStates();
        x.addSheet(1, 65, 100);
        due("14: between two states", x.score(0, 0), -6);
        x.setTolerances(5, 25);
        due("14: both fit", x.score(0, 0), 25);
        due("15: the first one of several", x.placement(0, 0, 3), 0);
        x.addSheet(1, 66, 100);
        due("14: nearer to the second", x.score(1, 0), 24);
        due("15: nearer to the second", x.placement(1, 0, 3), 1);
        x.addState(0, 91, 124);
        x.addState(0, 66, 126);
        due("15: a state that does not fit in y", x.placement(1, 0, 3), 1);
        x.addState(0, 66, 100);
        due("14: a new state fits better", x.score(1, 0), 0);
        due("15: a new state fits better", x.placement(1, 0, 3), 5);
        x.removeState(0);
        due("14: it is removed", x.score(1, 0), 24);
        due("15: it is removed", x.placement(1, 0, 3), 1);
        // dx + dy counts, but each one is held against the tolerance alone.
        x.setTolerances(0, 25);
        x.addSheet(1, 165, 125);
        due("14: 25 and 25", x.score(2, 0), 50);
        x.setTolerances(0, 24);
        due("14: 25 and 25 are too much", x.score(2, 0), -6);
    }

    private static void rounding() {
        MouldMatcher x = new MouldMatcher();
        Checks.row(x, 201, 203, 207);
        x.addMould(0, 101, 99);
        x.setTolerances(0, 0);
        // 201 * 955 / 1000 = 191.955, 203 * 955 / 1000 = 193.865; 101 -> 96.455, 99 -> 94.545
        Checks.row(x, 191, 193);
        x.addSheet(0, 96, 94);
        due("14: every division rounds down", x.score(0, 0), 0);
        due("15: its factor", x.placement(0, 0, 2), 955);
        Checks.row(x, 192, 194);
        x.addSheet(0, 96, 94);
        due("14: not to the nearest", x.score(1, 0), -6);
        Checks.row(x, 191, 193);
        x.addSheet(0, 97, 94);
        x.addSheet(0, 96, 95);
        due("14: X rounds down too", x.score(2, 0), -6);
        due("14: Y rounds down too", x.score(3, 0), -6);
    }

    private static void assignments() {
        MouldMatcher x = new MouldMatcher();
        due("16: no sheet", x.assignedMould(0), -2);
        Checks.row(x, 200, 230, 210);
        x.addSheet(0, 60, 60);
        for (int wrong : FAR) {
            due("16: sheet " + wrong, x.assignedMould(wrong), -2);
        }
        due("16: no moulds", x.assignedMould(0), -6);
        due("17: no moulds", x.rivalCount(0, 0), -6);
        x.addMould(0, 65, 60);
        due("16: the only mould", x.assignedMould(0), 0);
        x.addMould(0, 55, 60);
        due("16: the first one of several", x.assignedMould(0), 0);
        x.addMould(0, 61, 60);
        due("16: a better mould", x.assignedMould(0), 2);
        x.addState(1, 60, 60);
        due("16: a better state of another", x.assignedMould(0), 1);
        x.removeState(1);
        due("16: without that state", x.assignedMould(0), 2);
        x.setTolerances(5, 0);
        due("16: 61 * 995 / 1000 is 60, but 60 is not 59", x.assignedMould(0), -6);
        x.setTolerances(5, 1);
        due("16: with a tolerance of 1", x.assignedMould(0), 2);
        due("14: 0 + 0 + 0 + 1", x.score(0, 2), 1);
    }

    private static void rivals() {
        MouldMatcher x = new MouldMatcher();
        due("17: no sheet", x.rivalCount(0, 0), -2);
        Checks.row(x, 200, 230, 210);
        x.addMould(0, 70, 60);
        x.addMould(0, 60, 60);
        x.addMould(0, 56, 60);
        x.addMould(1, 60, 60);
        Checks.row(x, 200, 230, 210);
        x.addSheet(0, 60, 60);
        due("16: the second", x.assignedMould(0), 1);
        due("14: its rival is 4 away", x.score(0, 2), 4);
        due("17: 3", x.rivalCount(0, 3), 0);
        due("17: at most", x.rivalCount(0, 4), 1);
        due("17: all that have a placement", x.rivalCount(0, 1000), 2);
        due("17: -1", x.rivalCount(0, -1), -3);
        due("17: 1001", x.rivalCount(0, 1001), -3);
        due("17: far", x.rivalCount(0, Integer.MAX_VALUE), -3);
        for (int wrong : FAR) {
            due("17: sheet " + wrong, x.rivalCount(wrong, 0), -2);
        }
        due("17: NO_SUCH_SHEET before BAD_VALUE", x.rivalCount(1, -1), -2);
        Checks.row(x, 400, 400);
        x.addSheet(-1, 0, 0);
        due("17: not assigned", x.rivalCount(1, 1000), -6);
        due("17: BAD_VALUE before NONE", x.rivalCount(1, 1001), -3);
        due("17: margin counts from the assigned score", margins(), 1);
    }

    private static int margins() {
        MouldMatcher x = new MouldMatcher();
        Checks.row(x, 200, 230, 210);
        x.addMould(0, 65, 60);
        x.addMould(0, 68, 60);
        Checks.row(x, 203, 233, 213);
        x.addSheet(0, 60, 60);
        return x.score(0, 0) > 3 ? x.rivalCount(0, 3) : -100;
    }

    private static void sheetSets() {
        MouldMatcher x = new MouldMatcher();
        due("18: no mould", x.sheetsOf(0), -1);
        Checks.row(x, 200, 230, 210);
        x.addMould(0, 60, 60);
        Checks.row(x, 300, 330, 310);
        x.addMould(0, 60, 60);
        due("18: no sheets", x.sheetsOf(0), 0);
        Checks.row(x, 200, 230);
        x.addSheet(-1, 0, 0);
        Checks.row(x, 300, 330);
        x.addSheet(0, 60, 60);
        Checks.row(x, 400, 100);
        x.addSheet(-1, 0, 0);
        Checks.row(x, 230, 210);
        x.addSheet(-1, 0, 0);
        due("18: the first mould", x.sheetsOf(0), 9);
        due("18: the second mould", x.sheetsOf(1), 2);
        for (int wrong : FAR) {
            due("18: mould " + wrong, x.sheetsOf(wrong), -1);
        }
        for (int k = 4; k < 30; k++) {
            x.addSheet(-1, 0, 0);
        }
        due("18: up to sheet 29", x.sheetsOf(0), (1 << 30) - 1 - 2 - 4);
    }

    private static void order() {
        MouldMatcher x = threeStates();
        due("19: no sheets", x.sheetAt(0, 0), -6);
        x.addSheet(1, 140, 100);
        x.addSheet(1, 90, 100);
        x.addSheet(-1, 0, 0);
        x.addSheet(1, 90, 100);
        x.addSheet(1, 90, 100);
        x.addSheet(1, 40, 100);
        x.setDates(0, 1400, 1500);
        x.setDates(1, 1610, 1620);
        x.setDates(2, 1, 2);
        x.setDates(3, 1605, 1606);
        x.setDates(4, 1605, 1699);
        x.setDates(5, 1601, 1602);
        orderIs(x, 0, 5, 3, 4, 1, 0);
        x.setDates(5, 1608, 1609);
        orderIs(x, 0, 5, 3, 4, 1, 0);
        x.setDates(4, 1500, 1501);
        orderIs(x, 0, 5, 3, 4, 1, 0);
        x.setDates(5, 1601, 1602);
        orderIs(x, 0, 5, 4, 3, 1, 0);
        x.setDates(5, 1700, 1701);
        orderIs(x, 0, 5, 1, 3, 4, 0);
        orderOfAlike();
        x.removeState(0);
        orderIs(x, 0, 5, 1, 3, 4);
        due("19: place -1", x.sheetAt(0, -1), -3);
        due("19: least place", x.sheetAt(0, Integer.MIN_VALUE), -3);
        due("19: greatest place", x.sheetAt(0, Integer.MAX_VALUE), -6);
        due("19: NO_SUCH_MOULD before BAD_VALUE", x.sheetAt(1, -1), -1);
        for (int wrong : FAR) {
            due("19: mould " + wrong, x.sheetAt(wrong, 0), -1);
        }
    }

    private static void orderOfAlike() {
        MouldMatcher x = threeStates();
        x.addSheet(1, 40, 100);
        x.addSheet(1, 40, 100);
        x.addSheet(1, 40, 100);
        orderIs(x, 0, 0, 1, 2);
        x.setDates(0, 5, 6);
        orderIs(x, 0, 1, 2, 0);
    }

    private static void orderIs(MouldMatcher x, int mould, int... sheets) {
        for (int place = 0; place < sheets.length; place++) {
            due("19: place " + place, x.sheetAt(mould, place), sheets[place]);
        }
        due("19: the place after the last", x.sheetAt(mould, sheets.length), -6);
    }

    private static void earliestAndLatest() {
        MouldMatcher x = threeStates();
        due("20: no sheet", x.earliest(0), -2);
        due("21: no sheet", x.latest(0), -2);
        x.addSheet(1, 40, 100);
        x.addSheet(1, 90, 100);
        x.addSheet(1, 140, 100);
        x.addSheet(-1, 0, 0);
        x.addSheet(1, 40, 100);
        Checks.row(x, 400, 400);
        x.addSheet(0, 10, 10);
        x.setDates(0, 1500, 1600);
        x.setDates(1, 1480, 1620);
        x.setDates(2, 1490, 1550);
        x.setDates(3, 1700, 1710);
        x.setDates(4, 1510, 1590);
        x.setDates(5, 1800, 1810);
        int[] from = {1500, 1510, 1510, 1700, 1510, 1800};
        int[] to = {1550, 1550, 1550, 1710, 1550, 1810};
        for (int sheet = 0; sheet < 6; sheet++) {
            due("20: sheet " + sheet, x.earliest(sheet), from[sheet]);
            due("21: sheet " + sheet, x.latest(sheet), to[sheet]);
        }
        for (int wrong : FAR) {
            due("20: sheet " + wrong, x.earliest(wrong), -2);
            due("21: sheet " + wrong, x.latest(wrong), -2);
        }
        x.setDates(1, 1750, 1760);
        due("20: first possible dates, not the same state", x.earliest(2), 1750);
        due("20: a lower state is not moved", x.earliest(0), 1500);
        due("21: a higher state is not moved", x.latest(2), 1550);
        due("21: earlier than its earliest", x.latest(1), 1550);
        due("20: its own", x.earliest(1), 1750);
        x.removeState(0);
        due("21: sheet 2 has no mould now", x.latest(0), 1600);
        due("20: sheet 2 has no mould now", x.earliest(2), 1490);
        x.addState(0, 140, 100);
        due("20: sheet 2 has its state again", x.earliest(2), 1750);
    }

    private static void contradictions() {
        MouldMatcher x = threeStates();
        due("22: no sheets", x.contradictionCount(0), 0);
        due("22: no such mould", x.contradictionCount(1), -1);
        for (int wrong : FAR) {
            due("22: mould " + wrong, x.contradictionCount(wrong), -1);
        }
        x.addSheet(1, 40, 100);
        x.addSheet(1, 90, 100);
        x.addSheet(1, 140, 100);
        x.addSheet(1, 40, 100);
        x.addSheet(-1, 0, 0);
        due("22: open dates", x.contradictionCount(0), 0);
        x.setDates(4, 1, 1);
        x.setDates(0, 1600, 1700);
        x.setDates(1, 1500, 1600);
        due("20: sheet 0 alone moves it", x.earliest(1), 1600);
        due("22: the same date is no contradiction", x.contradictionCount(0), 0);
        x.setDates(1, 1500, 1599);
        due("22: one pair", x.contradictionCount(0), 1);
        x.setDates(2, 1400, 1450);
        due("22: three pairs", x.contradictionCount(0), 3);
        x.setDates(3, 1900, 1901);
        due("22: five pairs, none of the same state", x.contradictionCount(0), 5);
        Checks.row(x, 200, 230, 210);
        x.addMould(2, 40, 100);
        due("22: of this mould alone", x.contradictionCount(1), 0);
        laterSheetsFirst();
    }

    /** Sheet 0 has the highest state here, and the lowest one in the runs above. */
    private static void laterSheetsFirst() {
        MouldMatcher x = threeStates();
        x.addSheet(1, 140, 100);
        x.addSheet(1, 40, 100);
        x.setDates(0, 1500, 1510);
        x.setDates(1, 1520, 1530);
        due("22: sheet 0 is the later one", x.contradictionCount(0), 1);
        due("20: sheet 0 is the later one", x.earliest(0), 1520);
        due("20: sheet 1 is the earlier one", x.earliest(1), 1520);
        due("21: sheet 1 is the earlier one", x.latest(1), 1510);
        due("21: sheet 0 is the later one", x.latest(0), 1510);
        orderIs(x, 0, 1, 0);
    }

    private static void questionsAboutNothing() {
        MouldMatcher x = new MouldMatcher();
        for (int number : FAR) {
            due("8: empty", x.stateCount(number), -1);
            due("16: empty", x.assignedMould(number), -2);
            due("18: empty", x.sheetsOf(number), -1);
            due("19: empty", x.sheetAt(number, number), -1);
            due("20: empty", x.earliest(number), -2);
            due("22: empty", x.contradictionCount(number), -1);
        }
    }

    /** All rooms full and every placement possible: the dearest calls there are. */
    private static void fullHouse() {
        MouldMatcher x = new MouldMatcher();
        x.setTolerances(50, 100);
        Checks.row(x, 300, 300, 300, 300, 300, 300, 300, 300, 300, 300);
        for (int mould = 0; mould < 10; mould++) {
            x.addMould(mould, 150, 150);
            for (int state = 1; state < 6; state++) {
                x.addState(mould, 150 + state, 150);
            }
        }
        Checks.row(x, 300, 300, 300, 300, 300);
        for (int sheet = 0; sheet < 30; sheet++) {
            x.addSheet(sheet % 2 == 0 ? -1 : 2, 150, 150);
        }
        for (int k = 0; k < 300; k++) {
            x.setTolerances(49 + k % 2, 100);
            x.sheetAt(0, 0);
        }
        due("18: the unseen marks", x.sheetsOf(0), 0x15555555);
        due("18: the seen marks", x.sheetsOf(2), 0x2AAAAAAA);
        due("19: none has a state on mould 0", x.sheetAt(0, 0), -6);
        due("19: the last one of mould 2", x.sheetAt(2, 14), 29);
        due("22: of thirty sheets", x.contradictionCount(2), 0);
        due("20: the last sheet", x.earliest(29), 0);
        due("21: the last sheet", x.latest(29), 9999);
        due("20: no sheet 30", x.earliest(30), -2);
        due("16: no sheet 30", x.assignedMould(30), -2);
        due("14: no mould 10", x.score(29, 10), -1);
        due("17: nine others", x.rivalCount(0, 0), 9);
        due("17: the intervals that fit", x.rivalCount(1, 1000), 5);
    }

    private static void twoObjects() {
        MouldMatcher one = new MouldMatcher();
        MouldMatcher other = new MouldMatcher();
        Checks.row(one, 200, 230, 210);
        one.addMould(0, 0, 0);
        one.setTolerances(1, 1);
        due("1: the other row", other.count(2), 0);
        due("1: the other moulds", other.count(0), 0);
        due("1: the other tolerances", other.setTolerances(5, 20), 0);
    }
}
