/** The limits of orientations, placements and scores: promises 14 and 15. */
final class PlacementLimits {
    private static final int[] TEN = {200, 210, 220, 230, 240, 250, 260, 270, 280, 290};
    private final Sentences doc;

    PlacementLimits(Sentences doc) {
        this.doc = doc;
    }

    void run() {
        arguments();
        parts();
        roundedSpacings();
        roundedMarks();
        orientationsOfMarks();
        orientationsOfIntervals();
        longSheets();
        offsets();
        factors();
        spacingTolerance();
        greatestSpacingTolerance();
        markTolerance();
        markTolerances();
        placeOfTheWatermark();
        statesThatFit();
        statesAtPar();
        scores();
        preferredOrientations();
        preferredOffsets();
        preferredFactors();
    }

    /** A matcher with these tolerances and one mould. */
    private static MouldMatcher mould(int spacing, int mark, int[] row, int... watermark) {
        MouldMatcher x = new MouldMatcher();
        x.setTolerances(spacing, mark);
        Checks.row(x, row);
        x.addMould(watermark[0], watermark[1], watermark[2]);
        return x;
    }

    private static int[] row(int... spacings) {
        return spacings;
    }

    private static int unseen(MouldMatcher x, int... spacings) {
        Checks.row(x, spacings);
        return x.addSheet(-1, 0, 0);
    }

    private static int unseenScore(MouldMatcher x, int... spacings) {
        return x.score(unseen(x, spacings), 0);
    }

    private static int seen(MouldMatcher x, int[] row, int interval, int markX, int markY) {
        Checks.row(x, row);
        return x.addSheet(interval, markX, markY);
    }

    private static int seenScore(MouldMatcher x, int[] row, int interval, int markX, int markY) {
        return x.score(seen(x, row, interval, markX, markY), 0);
    }

    private void partsAre(MouldMatcher x, int sheet, int... due) {
        for (int what = 0; what < due.length; what++) {
            doc.due("part " + what + " of sheet " + sheet, x.placement(sheet, 0, what), due[what]);
        }
    }

    // ---- the arguments

    private void arguments() {
        MouldMatcher x = mould(5, 20, row(200, 240, 220), 0, 10, 10);
        x.addMould(0, 10, 10);
        x.addSheet(-1, 0, 0);
        x.addSheet(-1, 0, 0);
        x.addSheet(-1, 0, 0);
        int[] wrongSheets = {-1, 3, 29, 30, Integer.MAX_VALUE, Integer.MIN_VALUE};
        int[] wrongMoulds = {-1, 2, 9, 10, Integer.MAX_VALUE, Integer.MIN_VALUE};
        for (int promise = 14; promise <= 15; promise++) {
            String name = promise == 14 ? "score" : "placement";
            doc.says(promise, "`sheet`: number of a sheet");
            doc.due("the first", Calls.answer(x, name, 0, 0, 0), 0);
            doc.due("the last", Calls.answer(x, name, 2, 0, 0), 0);
            doc.says(promise, "`mould`: number of a mould");
            doc.due("the last", Calls.answer(x, name, 0, 1, 0), 0);
            doc.says(promise, "NO_SUCH_SHEET");
            for (int wrong : wrongSheets) {
                doc.due("sheet " + wrong, Calls.answer(x, name, wrong, 0, 0), -2);
                doc.due("before NO_SUCH_MOULD", Calls.answer(x, name, wrong, 2, 0), -2);
                doc.due("before BAD_VALUE", Calls.answer(x, name, wrong, 2, 4), -2);
            }
            doc.due("of nothing", Calls.answer(new MouldMatcher(), name, 0, 0, 0), -2);
            doc.says(promise, "NO_SUCH_MOULD");
            for (int wrong : wrongMoulds) {
                doc.due("mould " + wrong, Calls.answer(x, name, 0, wrong, 0), -1);
                doc.due("before BAD_VALUE", Calls.answer(x, name, 0, wrong, 4), -1);
            }
        }
        doc.says(14, "NO_SUCH_MOULD");
        MouldMatcher none = new MouldMatcher();
        doc.due("no moulds", none.score(unseen(none, 200, 210), 0), -1);
    }

    private void parts() {
        MouldMatcher x = mould(0, 20, row(300, 200, 240, 220), 2, 10, 20);
        x.addState(0, 100, 20);
        Checks.row(x, 209, 228, 190);
        doc.says(15, "`what`: 0 for the orientation, 1 for the offset, 2 for the factor, "
                + "3 for the state (NONE if the mark was not seen)");
        partsAre(x, x.addSheet(1, 133, 19), 2, 1, 950, 1);
        doc.says(15, "the part");
        partsAre(x, x.addSheet(-1, 133, 19), 1, 1, 950, -6);
        doc.says(15, "BAD_VALUE");
        int lost = unseen(x, 400, 400);
        for (int wrong : new int[] {-1, 4, 5, -6, Integer.MAX_VALUE, Integer.MIN_VALUE}) {
            doc.due("what " + wrong, x.placement(0, 0, wrong), -3);
            doc.due("before NONE, what " + wrong, x.placement(lost, 0, wrong), -3);
        }
        doc.says(15, "NONE if there is no possible placement");
        partsAre(x, lost, -6, -6, -6, -6);
        doc.says(14, "NONE if there is no possible placement");
        doc.due("score", x.score(lost, 0), -6);
    }

    // ---- divisions

    /** 0.4 of a tenth and 0.999 of it are both cut off; nothing is cut off where nothing remains. */
    private void roundedSpacings() {
        doc.says(0, "Every division rounds down.");
        MouldMatcher x = mould(0, 0, row(200, 240, 220), 0, 0, 0);
        doc.due("200 * 945 / 1000 is 189", unseenScore(x, 189, 226, 207), 0);
        doc.due("240 * 945 / 1000 is 226.8, not 227", unseenScore(x, 189, 227, 207), -6);
        doc.due("220 * 945 / 1000 is 207.9, not 208", unseenScore(x, 189, 226, 208), -6);
        MouldMatcher y = mould(0, 0, row(401, 401, 401), 0, 0, 0);
        doc.due("401 * 995 / 1000 is 398.995", unseenScore(y, 398, 398), 0);
        doc.due("not 399", unseenScore(y, 399, 399), -6);
        MouldMatcher z = mould(0, 0, row(399, 399, 399), 0, 0, 0);
        doc.due("399 * 995 / 1000 is 397.005", unseenScore(z, 397, 397), 0);
        doc.due("not 398", unseenScore(z, 398, 398), -6);
    }

    /** The spacings of the sheets leave the factor 995 alone. */
    private void roundedMarks() {
        MouldMatcher x = mould(0, 0, row(400, 400, 400), 0, 1, 1);
        doc.due("1 * 995 / 1000 is 0", seenScore(x, row(398, 398, 398), 0, 0, 0), 0);
        doc.due("X is not 1", seenScore(x, row(398, 398, 398), 0, 1, 0), -6);
        doc.due("Y is not 1", seenScore(x, row(398, 398, 398), 0, 0, 1), -6);
        MouldMatcher y = mould(0, 0, row(400, 400, 400), 0, 399, 201);
        doc.due("397.005 and 199.995", seenScore(y, row(398, 398, 398), 0, 397, 199), 0);
        doc.due("not 398", seenScore(y, row(398, 398, 398), 0, 398, 199), -6);
        doc.due("not 200", seenScore(y, row(398, 398, 398), 0, 397, 200), -6);
    }

    // ---- orientations

    private void orientationsOfMarks() {
        int[] row = {200, 240, 220};
        int[] reversed = {220, 240, 200};
        MouldMatcher x = mould(0, 0, row, 0, 0, 0);
        MouldMatcher y = mould(0, 0, row, 0, 200, 300);
        doc.says(0, "0: as measured.");
        partsAre(x, seen(x, row, 0, 0, 0), 0, 0, 1000, 0);
        partsAre(y, seen(y, row, 0, 200, 300), 0, 0, 1000, 0);
        doc.says(0, "1: turned around. The order of the spacings is reversed, the mark lies in the "
                + "interval n - 1 - i, its x is s(i) - x, and its y is 300 - y.");
        partsAre(x, seen(x, reversed, 2, 200, 300), 1, 0, 1000, 0);
        partsAre(y, seen(y, reversed, 2, 0, 0), 1, 0, 1000, 0);
        doc.says(0, "2: turned over. The order of the spacings is reversed, the mark lies in the "
                + "interval n - 1 - i, its x is s(i) - x, and its y stays.");
        partsAre(x, seen(x, reversed, 2, 200, 0), 2, 0, 1000, 0);
        partsAre(y, seen(y, reversed, 2, 0, 300), 2, 0, 1000, 0);
        doc.says(0, "3: turned around and over. The order of the spacings, the interval of the mark "
                + "and its x stay, and its y is 300 - y.");
        partsAre(x, seen(x, row, 0, 0, 300), 3, 0, 1000, 0);
        partsAre(y, seen(y, row, 0, 200, 0), 3, 0, 1000, 0);
        doc.due("x is not turned alone", seenScore(x, row, 0, 200, 0), -6);
        doc.due("the interval is not kept alone", seenScore(x, reversed, 0, 200, 0), -6);
    }

    private void orientationsOfIntervals() {
        doc.says(0, "the mark lies in the interval n - 1 - i");
        int[] turned = new int[10];
        for (int k = 0; k < 10; k++) {
            turned[k] = TEN[9 - k];
        }
        for (int i = 0; i < 10; i++) {
            MouldMatcher x = mould(0, 0, TEN, 9 - i, 30, 40);
            partsAre(x, seen(x, turned, i, turned[i] - 30, 260), 1, 0, 1000, 0);
            doc.due("another interval than " + i, seenScore(x, turned, (i + 1) % 10, 30, 40), -6);
        }
        MouldMatcher x = mould(0, 0, row(200, 240, 220), 1, 30, 40);
        partsAre(x, seen(x, row(220, 240, 200), 1, 210, 260), 1, 0, 1000, 0);
        partsAre(x, seen(x, row(240, 200), 0, 210, 260), 1, 0, 1000, 0);
        partsAre(x, seen(x, row(220, 240), 1, 210, 260), 1, 1, 1000, 0);
    }

    // ---- offsets and factors

    private void longSheets() {
        doc.says(0, "m not less than n");
        MouldMatcher x = mould(50, 100, row(300, 300, 300), 0, 10, 10);
        doc.due("2 on 3", unseenScore(x, 300, 300), 0);
        doc.due("3 on 3", unseenScore(x, 300, 300, 300), 0);
        doc.due("4 on 3", unseenScore(x, 300, 300, 300, 300), -6);
        doc.due("10 on 3",
                unseenScore(x, 300, 300, 300, 300, 300, 300, 300, 300, 300, 300), -6);
        doc.due("4 on 3 with the mark seen", seenScore(x, row(300, 300, 300, 300), 0, 10, 10), -6);
        MouldMatcher y = mould(0, 0, TEN, 0, 10, 10);
        doc.due("10 on 10", unseenScore(y, TEN), 0);
        doc.due("9 on 10", unseenScore(y, 210, 220, 230, 240, 250, 260, 270, 280, 290), 0);
    }

    private void offsets() {
        doc.says(0, "an offset o from 0 to m - n");
        MouldMatcher x = mould(0, 0, TEN, 0, 10, 10);
        for (int offset = 0; offset <= 8; offset++) {
            partsAre(x, unseen(x, TEN[offset], TEN[offset + 1]), 0, offset, 1000);
        }
        partsAre(x, unseen(x, TEN), 0, 0, 1000);
        partsAre(x, unseen(x, 210, 220, 230, 240, 250, 260, 270, 280, 290), 0, 1, 1000);
        MouldMatcher y = mould(0, 0, row(200, 240, 220, 260), 0, 10, 10);
        doc.due("not around the end", unseenScore(y, 260, 200), -6);
        doc.due("not beyond the end", unseenScore(y, 220, 260, 260), -6);
        doc.due("not before the start", unseenScore(y, 200, 200, 240), -6);
        doc.due("not with a gap", unseenScore(y, 200, 220), -6);
    }

    private void factors() {
        doc.says(0, "a factor p, which is one of 940, 945, 950, ..., 1000 (thousandths)");
        MouldMatcher x = mould(0, 0, row(400, 400, 400), 0, 0, 0);
        for (int p = 940; p <= 1000; p += 5) {
            partsAre(x, unseen(x, 2 * p / 5, 2 * p / 5), 0, 0, p);
        }
        doc.due("not 935", unseenScore(x, 374, 374), -6);
        doc.due("not 1005", unseenScore(x, 402, 402), -6);
        doc.due("not 1000 and a little", unseenScore(x, 401, 401), -6);
        doc.due("not 942", unseenScore(x, 377, 377), -6);
        doc.due("not 997", unseenScore(x, 399, 399), -6);
        doc.due("not 937", unseenScore(x, 375, 375), -6);
        doc.due("one for all intervals", unseenScore(x, 400, 398), -6);
        MouldMatcher y = mould(0, 0, row(400, 400, 400), 0, 200, 100);
        doc.due("the same for the mark", seenScore(y, row(376, 376, 376), 0, 188, 94), 0);
        doc.due("the same for x", seenScore(y, row(376, 376, 376), 0, 200, 94), -6);
        doc.due("the same for y", seenScore(y, row(376, 376, 376), 0, 188, 100), -6);
    }

    // ---- tolerances

    /** A wider sheet needs the factor 1000 and a narrower one 940: no other comes nearer. */
    private void spacingTolerance() {
        doc.says(0, "The placement is possible if no deviation of an interval is greater than "
                + "the spacing tolerance");
        for (int tolerance = 0; tolerance <= 50; tolerance += 5) {
            MouldMatcher x = mould(tolerance, 0, row(400, 400, 400), 0, 0, 0);
            int wide = 400 + tolerance;
            int narrow = 376 - tolerance;
            doc.due("wide", unseenScore(x, wide, wide, wide), 3 * tolerance);
            doc.due("narrow", unseenScore(x, narrow, narrow, narrow), 3 * tolerance);
            partsAre(x, 0, 0, 0, 1000);
            partsAre(x, 1, 0, 0, 940);
            for (int k = 0; k < 3 && wide < 450; k++) {
                int[] row = {wide, wide, wide};
                row[k]++;
                doc.due("too wide at " + k, unseenScore(x, row), -6);
            }
            for (int k = 0; k < 3; k++) {
                int[] row = {narrow, narrow, narrow};
                row[k]--;
                doc.due("too narrow at " + k, unseenScore(x, row), -6);
            }
        }
    }

    private void greatestSpacingTolerance() {
        MouldMatcher x = mould(50, 0, row(399, 400, 400), 0, 0, 0);
        doc.due("50 at offset 1", unseenScore(x, 450, 450), 100);
        doc.due("51 at offset 0", unseenScore(x, 450, 450, 450), -6);
        MouldMatcher y = mould(0, 0, row(400, 400, 400), 0, 0, 0);
        doc.due("1 with the tolerance 0", unseenScore(y, 400, 401, 400), -6);
        doc.due("0 with the tolerance 0", unseenScore(y, 400, 400, 400), 0);
    }

    /** Seen from every side the mould looks the same, and the factor can be 1000 alone. */
    private void markTolerance() {
        doc.says(0, "A state fits if neither of these two absolute values is greater than "
                + "the mark tolerance.");
        int[] row = {400, 400, 400};
        MouldMatcher x = mould(0, 20, row, 1, 200, 150);
        doc.due("20 to the right", seenScore(x, row, 1, 220, 150), 20);
        doc.due("21 to the right", seenScore(x, row, 1, 221, 150), -6);
        doc.due("20 to the left", seenScore(x, row, 1, 180, 150), 20);
        doc.due("21 to the left", seenScore(x, row, 1, 179, 150), -6);
        doc.due("20 above", seenScore(x, row, 1, 200, 170), 20);
        doc.due("21 above", seenScore(x, row, 1, 200, 171), -6);
        doc.due("20 below", seenScore(x, row, 1, 200, 130), 20);
        doc.due("21 below", seenScore(x, row, 1, 200, 129), -6);
        doc.due("20 and 20", seenScore(x, row, 1, 220, 170), 40);
        doc.due("20 and -20", seenScore(x, row, 1, 220, 130), 40);
        doc.due("21 and 20", seenScore(x, row, 1, 221, 170), -6);
        doc.due("20 and 21", seenScore(x, row, 1, 220, 171), -6);
    }

    /** Interval 0 leaves no reversed orientation; 150 is the middle of the height. */
    private void markTolerances() {
        int[] row = {400, 380, 400};
        for (int tolerance = 0; tolerance <= 100; tolerance += 10) {
            MouldMatcher x = mould(0, tolerance, row, 0, 200, 150);
            int right = 200 + tolerance;
            int left = 200 - tolerance;
            int high = 150 + tolerance;
            int low = 150 - tolerance;
            doc.due("right and high", seenScore(x, row, 0, right, high), 2 * tolerance);
            doc.due("left and low", seenScore(x, row, 0, left, low), 2 * tolerance);
            doc.due("too far right", seenScore(x, row, 0, right + 1, 150), -6);
            doc.due("too far left", seenScore(x, row, 0, left - 1, 150), -6);
            doc.due("too high", seenScore(x, row, 0, 200, high + 1), -6);
            doc.due("too low", seenScore(x, row, 0, 200, low - 1), -6);
        }
    }

    // ---- the watermark and its states

    private void placeOfTheWatermark() {
        doc.says(0, "its interval j in this orientation is such that o + j is the interval of the "
                + "watermark of the mould");
        int[] row = {300, 300, 300, 300};
        for (int interval = 0; interval < 4; interval++) {
            MouldMatcher x = mould(0, 0, row, interval, 10, 20);
            for (int j = 0; j < 4; j++) {
                int due = j == interval ? 0 : -6;
                doc.due("4 spacings, " + j, seenScore(x, row, j, 10, 20), due);
            }
            for (int j = 0; j < 2; j++) {
                int offset = interval - j;
                int sheet = seen(x, row(300, 300), j, 10, 20);
                boolean there = offset >= 0 && offset <= 2;
                doc.due("2 spacings, " + j, x.score(sheet, 0), there ? 0 : -6);
                doc.due("its offset", x.placement(sheet, 0, 1), there ? offset : -6);
            }
        }
    }

    private void statesThatFit() {
        doc.says(0, "at least one state fits");
        int[] row = {400, 400, 400};
        MouldMatcher x = mould(0, 20, row, 1, 200, 150);
        int[] far = {0, 40, 80, 120, 160};
        MouldMatcher last = mould(0, 10, row, 1, 400, 300);
        for (int state = 0; state < 5; state++) {
            x.addState(0, far[state], 0);
            last.addState(0, state < 4 ? far[state] : 200, state < 4 ? 0 : 150);
        }
        partsAre(x, seen(x, row, 1, 200, 150), 0, 0, 1000, 0);
        partsAre(last, seen(last, row, 1, 200, 150), 0, 0, 1000, 5);
        last.removeState(0);
        doc.due("none of five", last.score(0, 0), -6);
        last.addState(0, 200, 161);
        doc.due("not quite", last.score(0, 0), -6);
        doc.says(0, "The state of the placement is the state that fits with the least deviation, "
                + "the first one of several; there is none if the mark was not seen.");
        MouldMatcher y = mould(0, 20, row, 1, 221, 150);
        y.addState(0, 215, 165);
        doc.due("21 does not fit, though 30 is more", seenScore(y, row, 1, 200, 150), 30);
        doc.due("the state that fits", y.placement(0, 0, 3), 1);
        doc.due("not seen", y.placement(unseen(y, 400, 400, 400), 0, 3), -6);
        doc.due("its score", y.score(1, 0), 0);
    }

    private void statesAtPar() {
        int[] row = {400, 400, 400};
        MouldMatcher x = mould(0, 20, row, 1, 212, 150);
        x.addState(0, 210, 150);
        x.addState(0, 200, 160);
        x.addState(0, 195, 155);
        x.addState(0, 190, 150);
        int sheet = seen(x, row, 1, 200, 150);
        doc.due("the first of those at 10", x.placement(sheet, 0, 3), 1);
        doc.due("their deviation", x.score(sheet, 0), 10);
        x.addState(0, 200, 159);
        doc.due("9 is less", x.placement(sheet, 0, 3), 5);
        doc.due("its deviation", x.score(sheet, 0), 9);
    }

    private void scores() {
        doc.says(14, "the score");
        MouldMatcher x = new MouldMatcher();
        x.setTolerances(50, 100);
        Checks.row(x, 400, 400, 400, 400, 400, 400, 400, 400, 400, 400);
        x.addMould(0, 200, 150);
        doc.due("the least", x.score(x.addSheet(0, 200, 150), 0), 0);
        Checks.row(x, 450, 450, 450, 450, 450, 450, 450, 450, 450, 450);
        doc.due("ten deviations", x.score(x.addSheet(-1, 0, 0), 0), 500);
        doc.due("ten and a mark", x.score(x.addSheet(0, 300, 250), 0), 700);
        doc.due("a mark too far", x.score(x.addSheet(0, 301, 250), 0), -6);
        doc.says(0, "The score of the placement is the sum of the deviations of all intervals of "
                + "the sheet, plus the deviation of the state of the placement, if there is one.");
        MouldMatcher y = mould(5, 20, row(400, 300, 200), 0, 100, 100);
        doc.due("wider and narrower", unseenScore(y, 401, 298, 203), 6);
        doc.due("with a mark", seenScore(y, row(401, 298, 203), 0, 104, 95), 15);
        leastDeviations();
    }

    /** One tenth to either side; the mark lies in the middle, so that no orientation undoes it. */
    private void leastDeviations() {
        int[] row = {400, 400, 400};
        MouldMatcher x = mould(1, 20, row, 1, 200, 150);
        doc.due("wider", unseenScore(x, 400, 401, 400), 1);
        doc.due("narrower", unseenScore(x, 400, 399, 400), 1);
        doc.due("right", seenScore(x, row, 1, 201, 150), 1);
        doc.due("left", seenScore(x, row, 1, 199, 150), 1);
        doc.due("above", seenScore(x, row, 1, 200, 151), 1);
        doc.due("below", seenScore(x, row, 1, 200, 149), 1);
        doc.due("one of each kind", seenScore(x, row(401, 400, 399), 1, 199, 149), 4);
    }

    // ---- the best placement

    private void preferredOrientations() {
        doc.says(0, "The best placement is the possible one with the least score; of several, "
                + "the one with the lowest orientation");
        MouldMatcher x = mould(0, 20, row(400, 400, 400), 1, 200, 150);
        partsAre(x, seen(x, row(400, 400, 400), 1, 200, 150), 0, 0, 1000, 0);
        MouldMatcher upper = mould(0, 20, row(400, 400, 400), 1, 200, 0);
        partsAre(upper, seen(upper, row(400, 400, 400), 1, 200, 300), 1, 0, 1000, 0);
        MouldMatcher turned = mould(0, 20, row(200, 240, 220), 1, 100, 150);
        partsAre(turned, unseen(turned, 220, 240, 200), 1, 0, 1000, -6);
        partsAre(turned, seen(turned, row(220, 240, 200), 1, 140, 150), 1, 0, 1000, 0);
        MouldMatcher less = mould(0, 20, row(200, 240, 220), 1, 100, 149);
        partsAre(less, seen(less, row(200, 240, 220), 1, 100, 151), 3, 0, 1000, 0);
        doc.due("2 in orientation 0, 0 in orientation 3", less.score(0, 0), 0);
        MouldMatcher over = mould(0, 20, row(200, 240, 220), 1, 100, 149);
        partsAre(over, seen(over, row(220, 240, 200), 1, 140, 149), 2, 0, 1000, 0);
        MouldMatcher late = mould(0, 20, row(228, 190, 200, 240), 0, 0, 0);
        partsAre(late, unseen(late, 190, 228), 0, 2, 950, -6);
    }

    private void preferredOffsets() {
        doc.says(0, "of these, the one with the lowest offset");
        MouldMatcher x = mould(0, 20, row(300, 300, 300, 300), 3, 0, 0);
        partsAre(x, unseen(x, 300, 300), 0, 0, 1000, -6);
        MouldMatcher both = mould(0, 20, row(260, 200, 240, 200, 240), 0, 0, 0);
        partsAre(both, unseen(both, 200, 240), 0, 1, 1000, -6);
        MouldMatcher factor = mould(0, 20, row(200, 240, 190, 228), 0, 0, 0);
        partsAre(factor, unseen(factor, 190, 228), 0, 0, 950, -6);
        MouldMatcher score = mould(5, 20, row(301, 301, 300, 300), 0, 0, 0);
        partsAre(score, unseen(score, 300, 300), 0, 2, 1000, -6);
    }

    /** 200 and 199 leave one tenth at 1000 and one at 995. */
    private void preferredFactors() {
        doc.says(0, "of these, the one with the greatest factor");
        MouldMatcher x = mould(5, 20, row(200, 200, 200), 0, 0, 0);
        partsAre(x, unseen(x, 200, 199), 0, 0, 1000, -6);
        partsAre(x, unseen(x, 189, 188), 0, 0, 945, -6);
        doc.due("one tenth", x.score(0, 0), 1);
        doc.due("one tenth too", x.score(1, 0), 1);
        MouldMatcher less = mould(5, 20, row(200, 200, 200), 0, 0, 0);
        partsAre(less, unseen(less, 199, 199), 0, 0, 995, -6);
    }
}
