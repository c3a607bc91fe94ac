import java.util.Arrays;

/**
 * A matcher of sheets of handmade paper to the papermaking moulds on which they were made, by the
 * spacings of chain lines and the position of the watermark. Lengths are in tenths of a millimetre.
 */
public final class MouldMatcher {
    /** There is no mould with this number. */
    public static final int NO_SUCH_MOULD = -1;
    /** There is no sheet with this number. */
    public static final int NO_SUCH_SHEET = -2;
    /** Another argument is out of range. */
    public static final int BAD_VALUE = -3;
    /** The row has too few numbers. */
    public static final int BAD_ROW = -4;
    /** There is no more room. */
    public static final int FULL = -5;
    /** There is no such thing; not an error. */
    public static final int NONE = -6;

    private static final int ROW_ROOM = 10;
    private static final int MOULD_ROOM = 10;
    private static final int STATE_ROOM = 6;
    private static final int SHEET_ROOM = 30;

    private static final int LEAST_SPACING = 100;
    private static final int GREATEST_SPACING = 450;
    private static final int MOULD_SPACINGS = 3;
    private static final int SHEET_SPACINGS = 2;
    private static final int HEIGHT = 300;
    private static final int LAST_DATE = 9999;
    private static final int SPACING_TOLERANCE_LIMIT = 50;
    private static final int MARK_TOLERANCE_LIMIT = 100;
    private static final int MARGIN_LIMIT = 1000;

    private static final int ORIENTATIONS = 4;
    private static final int GREATEST_FACTOR = 1000;
    private static final int LEAST_FACTOR = 940;
    private static final int FACTOR_STEP = 5;
    private static final int THOUSAND = 1000;

    private static final int NOT_SEEN = -1;
    private static final int NO_STATE = -1;
    private static final int NO_FIT = -1;

    private final int[] row = new int[ROW_ROOM];
    private int rowLength = 0;
    private int spacingTolerance = 5;
    private int markTolerance = 20;
    private final Mould[] moulds = new Mould[MOULD_ROOM];
    private int mouldTotal = 0;
    private final Sheet[] sheets = new Sheet[SHEET_ROOM];
    private int sheetTotal = 0;

    // Kept for all calls, so that no question makes an object.
    private final View view = new View();
    private final int[] statesOnMould = new int[SHEET_ROOM];
    private final int[] earliestDates = new int[SHEET_ROOM];

    /** Creates a matcher without moulds and sheets, with an empty row. */
    public MouldMatcher() {
    }

    // ---- the row and the tolerances

    /** Clears the row and returns how many numbers it had. */
    public int clearRow() {
        int had = rowLength;
        rowLength = 0;
        return had;
    }

    /** Adds a number at the end of the row. */
    public int addToRow(int spacing) {
        if (!isWithin(spacing, LEAST_SPACING, GREATEST_SPACING)) {
            return BAD_VALUE;
        }
        if (rowLength >= ROW_ROOM) {
            return FULL;
        }
        row[rowLength] = spacing;
        rowLength++;
        return rowLength;
    }

    /** Sets the tolerances; returns 1 if this changed one of them. */
    public int setTolerances(int spacingTolerance, int markTolerance) {
        if (!isWithin(spacingTolerance, 0, SPACING_TOLERANCE_LIMIT)
                || !isWithin(markTolerance, 0, MARK_TOLERANCE_LIMIT)) {
            return BAD_VALUE;
        }
        if (this.spacingTolerance == spacingTolerance && this.markTolerance == markTolerance) {
            return 0;
        }
        this.spacingTolerance = spacingTolerance;
        this.markTolerance = markTolerance;
        for (int mould = 0; mould < mouldTotal; mould++) {
            forgetMatches(mould);
        }
        return 1;
    }

    // ---- moulds

    /** Adds a mould with the spacings of the row and a watermark with one state. */
    public int addMould(int interval, int x, int y) {
        if (rowLength < MOULD_SPACINGS) {
            return BAD_ROW;
        }
        if (!isMarkInRow(interval, x, y)) {
            return BAD_VALUE;
        }
        if (mouldTotal >= MOULD_ROOM) {
            return FULL;
        }
        Mould mould = new Mould(Arrays.copyOf(row, rowLength), interval, row[interval]);
        mould.append(x, y);
        moulds[mouldTotal] = mould;
        mouldTotal++;
        return mouldTotal - 1;
    }

    /** Adds a state of the watermark of a mould, later than all others. */
    public int addState(int mould, int x, int y) {
        Mould chosen = mouldOrNull(mould);
        if (chosen == null) {
            return NO_SUCH_MOULD;
        }
        if (!isPosition(chosen.width, x, y)) {
            return BAD_VALUE;
        }
        if (chosen.states >= STATE_ROOM) {
            return FULL;
        }
        chosen.append(x, y);
        forgetMatches(mould);
        return chosen.states - 1;
    }

    /** Removes the last state of the watermark of a mould, but never the only one. */
    public int removeState(int mould) {
        Mould chosen = mouldOrNull(mould);
        if (chosen == null) {
            return NO_SUCH_MOULD;
        }
        if (chosen.states <= 1) {
            return NONE;
        }
        chosen.states--;
        forgetMatches(mould);
        return chosen.states;
    }

    /** Returns the number of states of the watermark of a mould. */
    public int stateCount(int mould) {
        Mould chosen = mouldOrNull(mould);
        return chosen == null ? NO_SUCH_MOULD : chosen.states;
    }

    /** Tells whether two moulds could be twins. */
    public int areTwins(int first, int second) {
        Mould one = mouldOrNull(first);
        Mould other = mouldOrNull(second);
        if (one == null || other == null) {
            return NO_SUCH_MOULD;
        }
        if (first == second) {
            return BAD_VALUE;
        }
        return couldBeTwins(one, other) ? 1 : 0;
    }

    /** Returns by how much two moulds that could be twins differ. */
    public int twinDifference(int first, int second) {
        Mould one = mouldOrNull(first);
        Mould other = mouldOrNull(second);
        if (one == null || other == null) {
            return NO_SUCH_MOULD;
        }
        if (first == second) {
            return BAD_VALUE;
        }
        if (!couldBeTwins(one, other)) {
            return NONE;
        }
        int ofX = Math.abs(one.stateX[0] - other.stateX[0]);
        int ofY = Math.abs(one.stateY[0] - other.stateY[0]);
        return Math.max(greatestSpacingDifference(one, other), Math.max(ofX, ofY));
    }

    // ---- sheets

    /** Adds a sheet with the spacings of the row; the interval is -1 if the mark was not seen. */
    public int addSheet(int interval, int x, int y) {
        if (rowLength < SHEET_SPACINGS) {
            return BAD_ROW;
        }
        if (interval != NOT_SEEN && !isMarkInRow(interval, x, y)) {
            return BAD_VALUE;
        }
        if (sheetTotal >= SHEET_ROOM) {
            return FULL;
        }
        sheets[sheetTotal] = new Sheet(Arrays.copyOf(row, rowLength), interval, x, y);
        sheetTotal++;
        return sheetTotal - 1;
    }

    /** Sets the possible dates of a sheet; returns 1 if this changed one of them. */
    public int setDates(int sheet, int first, int last) {
        Sheet chosen = sheetOrNull(sheet);
        if (chosen == null) {
            return NO_SUCH_SHEET;
        }
        if (!isWithin(first, 0, LAST_DATE) || !isWithin(last, first, LAST_DATE)) {
            return BAD_VALUE;
        }
        if (chosen.first == first && chosen.last == last) {
            return 0;
        }
        chosen.first = first;
        chosen.last = last;
        return 1;
    }

    /** Returns how many moulds (0), sheets (1) or numbers in the row (2) there are. */
    public int count(int what) {
        switch (what) {
            case 0:
                return mouldTotal;
            case 1:
                return sheetTotal;
            case 2:
                return rowLength;
            default:
                return BAD_VALUE;
        }
    }

    // ---- matching

    /** Returns the score of the best placement of a sheet on a mould. */
    public int score(int sheet, int mould) {
        Sheet chosen = sheetOrNull(sheet);
        if (chosen == null) {
            return NO_SUCH_SHEET;
        }
        if (mouldOrNull(mould) == null) {
            return NO_SUCH_MOULD;
        }
        Match match = matchOf(chosen, mould);
        return match.possible ? match.score : NONE;
    }

    /** Returns the orientation (0), offset (1), factor (2) or state (3) of the best placement. */
    public int placement(int sheet, int mould, int what) {
        Sheet chosen = sheetOrNull(sheet);
        if (chosen == null) {
            return NO_SUCH_SHEET;
        }
        if (mouldOrNull(mould) == null) {
            return NO_SUCH_MOULD;
        }
        if (!isWithin(what, 0, 3)) {
            return BAD_VALUE;
        }
        Match match = matchOf(chosen, mould);
        if (!match.possible) {
            return NONE;
        }
        switch (what) {
            case 0:
                return match.orientation;
            case 1:
                return match.offset;
            case 2:
                return match.factor;
            default:
                return match.state == NO_STATE ? NONE : match.state;
        }
    }

    /** Returns the mould to which a sheet is assigned. */
    public int assignedMould(int sheet) {
        Sheet chosen = sheetOrNull(sheet);
        return chosen == null ? NO_SUCH_SHEET : mouldFor(chosen);
    }

    /** Counts the other moulds to which a sheet could belong almost as well. */
    public int rivalCount(int sheet, int margin) {
        Sheet chosen = sheetOrNull(sheet);
        if (chosen == null) {
            return NO_SUCH_SHEET;
        }
        if (!isWithin(margin, 0, MARGIN_LIMIT)) {
            return BAD_VALUE;
        }
        int assigned = mouldFor(chosen);
        if (assigned == NONE) {
            return NONE;
        }
        int limit = matchOf(chosen, assigned).score + margin;
        int rivals = 0;
        for (int mould = 0; mould < mouldTotal; mould++) {
            Match match = matchOf(chosen, mould);
            if (mould != assigned && match.possible && match.score <= limit) {
                rivals++;
            }
        }
        return rivals;
    }

    /** Returns the sheets assigned to a mould, as a bit set. */
    public int sheetsOf(int mould) {
        if (mouldOrNull(mould) == null) {
            return NO_SUCH_MOULD;
        }
        int set = 0;
        for (int sheet = 0; sheet < sheetTotal; sheet++) {
            if (mouldFor(sheets[sheet]) == mould) {
                set |= 1 << sheet;
            }
        }
        return set;
    }

    // ---- order and dates

    /** Returns the sheet at a place in the order of time of the sheets of a mould. */
    public int sheetAt(int mould, int place) {
        if (mouldOrNull(mould) == null) {
            return NO_SUCH_MOULD;
        }
        if (place < 0) {
            return BAD_VALUE;
        }
        gatherStates(mould);
        for (int sheet = 0; sheet < sheetTotal; sheet++) {
            earliestDates[sheet] = earliestOf(sheet);
        }
        for (int sheet = 0; sheet < sheetTotal; sheet++) {
            if (statesOnMould[sheet] != NO_STATE && placeOf(sheet) == place) {
                return sheet;
            }
        }
        return NONE;
    }

    /** Returns the earliest date of a sheet. */
    public int earliest(int sheet) {
        Sheet chosen = sheetOrNull(sheet);
        if (chosen == null) {
            return NO_SUCH_SHEET;
        }
        gatherStates(mouldFor(chosen));
        return earliestOf(sheet);
    }

    /** Returns the latest date of a sheet. */
    public int latest(int sheet) {
        Sheet chosen = sheetOrNull(sheet);
        if (chosen == null) {
            return NO_SUCH_SHEET;
        }
        gatherStates(mouldFor(chosen));
        return latestOf(sheet);
    }

    /** Counts the pairs of sheets of a mould whose dates contradict their states. */
    public int contradictionCount(int mould) {
        if (mouldOrNull(mould) == null) {
            return NO_SUCH_MOULD;
        }
        gatherStates(mould);
        int pairs = 0;
        for (int lower = 0; lower < sheetTotal; lower++) {
            for (int higher = 0; higher < sheetTotal; higher++) {
                if (isLowerState(lower, higher) && sheets[lower].first > sheets[higher].last) {
                    pairs++;
                }
            }
        }
        return pairs;
    }

    // ---- checks of arguments

    private static boolean isWithin(int value, int least, int greatest) {
        return value >= least && value <= greatest;
    }

    private static boolean isPosition(int width, int x, int y) {
        return isWithin(x, 0, width) && isWithin(y, 0, HEIGHT);
    }

    private boolean isMarkInRow(int interval, int x, int y) {
        return interval >= 0 && interval < rowLength && isPosition(row[interval], x, y);
    }

    private Mould mouldOrNull(int number) {
        return number >= 0 && number < mouldTotal ? moulds[number] : null;
    }

    private Sheet sheetOrNull(int number) {
        return number >= 0 && number < sheetTotal ? sheets[number] : null;
    }

    // ---- twins

    private boolean couldBeTwins(Mould one, Mould other) {
        return one.spacings.length == other.spacings.length
                && one.interval == other.interval
                && greatestSpacingDifference(one, other) <= spacingTolerance;
    }

    private static int greatestSpacingDifference(Mould one, Mould other) {
        int shared = Math.min(one.spacings.length, other.spacings.length);
        int greatest = 0;
        for (int k = 0; k < shared; k++) {
            greatest = Math.max(greatest, Math.abs(one.spacings[k] - other.spacings[k]));
        }
        return greatest;
    }

    // ---- placements and assignment

    /** The least score wins, and the first mould of several: hence the strict comparison. */
    private int mouldFor(Sheet sheet) {
        int assigned = NONE;
        int least = 0;
        for (int mould = 0; mould < mouldTotal; mould++) {
            Match match = matchOf(sheet, mould);
            if (match.possible && (assigned == NONE || match.score < least)) {
                assigned = mould;
                least = match.score;
            }
        }
        return assigned;
    }

    /** A search is dear, so its outcome is kept until a state or a tolerance changes. */
    private Match matchOf(Sheet sheet, int mould) {
        Match match = sheet.matches[mould];
        if (!match.known) {
            findBest(sheet, moulds[mould], match);
            match.known = true;
        }
        return match;
    }

    private void forgetMatches(int mould) {
        for (int sheet = 0; sheet < sheetTotal; sheet++) {
            sheets[sheet].matches[mould].known = false;
        }
    }

    /** The loops run in the order in which placements of the same score are preferred. */
    private void findBest(Sheet sheet, Mould mould, Match match) {
        match.possible = false;
        int lastOffset = mould.spacings.length - sheet.spacings.length;
        for (int orientation = 0; orientation < ORIENTATIONS; orientation++) {
            view.turn(sheet, orientation);
            for (int offset = 0; offset <= lastOffset; offset++) {
                if (view.interval != NOT_SEEN && offset + view.interval != mould.interval) {
                    continue;
                }
                for (int p = GREATEST_FACTOR; p >= LEAST_FACTOR; p -= FACTOR_STEP) {
                    tryPlacement(mould, offset, p, match);
                }
            }
        }
    }

    private void tryPlacement(Mould mould, int offset, int factor, Match match) {
        int sum = spacingDeviations(mould, offset, factor);
        if (sum == NO_FIT) {
            return;
        }
        int state = NO_STATE;
        if (view.interval != NOT_SEEN) {
            state = fittingState(mould, factor);
            if (state == NO_STATE) {
                return;
            }
            sum += markDeviation(mould, state, factor);
        }
        if (!match.possible || sum < match.score) {
            match.possible = true;
            match.score = sum;
            match.orientation = view.orientation;
            match.offset = offset;
            match.factor = factor;
            match.state = state;
        }
    }

    private int spacingDeviations(Mould mould, int offset, int factor) {
        int sum = 0;
        for (int j = 0; j < view.length; j++) {
            int deviation = view.spacings[j] - mould.spacings[offset + j] * factor / THOUSAND;
            if (deviation > spacingTolerance || deviation < -spacingTolerance) {
                return NO_FIT;
            }
            sum += deviation < 0 ? -deviation : deviation;
        }
        return sum;
    }

    private int fittingState(Mould mould, int factor) {
        int fitting = NO_STATE;
        int least = 0;
        for (int state = 0; state < mould.states; state++) {
            int deviation = markDeviation(mould, state, factor);
            if (deviation != NO_FIT && (fitting == NO_STATE || deviation < least)) {
                fitting = state;
                least = deviation;
            }
        }
        return fitting;
    }

    private int markDeviation(Mould mould, int state, int factor) {
        int ofX = view.x - mould.stateX[state] * factor / THOUSAND;
        int ofY = view.y - mould.stateY[state] * factor / THOUSAND;
        if (ofX > markTolerance || ofX < -markTolerance
                || ofY > markTolerance || ofY < -markTolerance) {
            return NO_FIT;
        }
        return (ofX < 0 ? -ofX : ofX) + (ofY < 0 ? -ofY : ofY);
    }

    // ---- order and dates of the sheets whose states were gathered

    /** A sheet of another mould has no state here; nor has any sheet if the mould is NONE. */
    private void gatherStates(int mould) {
        for (int sheet = 0; sheet < sheetTotal; sheet++) {
            statesOnMould[sheet] = NO_STATE;
            if (mould >= 0 && mouldFor(sheets[sheet]) == mould) {
                statesOnMould[sheet] = matchOf(sheets[sheet], mould).state;
            }
        }
    }

    private boolean isLowerState(int lower, int higher) {
        return statesOnMould[lower] != NO_STATE && statesOnMould[lower] < statesOnMould[higher];
    }

    private int earliestOf(int sheet) {
        int date = sheets[sheet].first;
        for (int other = 0; other < sheetTotal; other++) {
            if (isLowerState(other, sheet)) {
                date = Math.max(date, sheets[other].first);
            }
        }
        return date;
    }

    private int latestOf(int sheet) {
        int date = sheets[sheet].last;
        for (int other = 0; other < sheetTotal; other++) {
            if (isLowerState(sheet, other)) {
                date = Math.min(date, sheets[other].last);
            }
        }
        return date;
    }

    private int placeOf(int sheet) {
        int place = 0;
        for (int other = 0; other < sheetTotal; other++) {
            if (statesOnMould[other] != NO_STATE && comesBefore(other, sheet)) {
                place++;
            }
        }
        return place;
    }

    private boolean comesBefore(int one, int other) {
        if (statesOnMould[one] != statesOnMould[other]) {
            return statesOnMould[one] < statesOnMould[other];
        }
        if (earliestDates[one] != earliestDates[other]) {
            return earliestDates[one] < earliestDates[other];
        }
        return one < other;
    }

    private static final class Mould {
        final int[] spacings;
        final int interval;
        /** The spacing of the interval of the watermark. */
        final int width;
        final int[] stateX = new int[STATE_ROOM];
        final int[] stateY = new int[STATE_ROOM];
        int states = 0;

        Mould(int[] spacings, int interval, int width) {
            this.spacings = spacings;
            this.interval = interval;
            this.width = width;
        }

        void append(int x, int y) {
            if (states < STATE_ROOM) {
                stateX[states] = x;
                stateY[states] = y;
                states++;
            }
        }
    }

    private static final class Sheet {
        final int[] spacings;
        /** The interval of the mark, or NOT_SEEN. */
        final int interval;
        final int x;
        final int y;
        int first = 0;
        int last = LAST_DATE;
        /** What is known of the best placement on each mould. */
        final Match[] matches = new Match[MOULD_ROOM];

        Sheet(int[] spacings, int interval, int x, int y) {
            this.spacings = spacings;
            this.interval = interval;
            this.x = x;
            this.y = y;
            for (int mould = 0; mould < MOULD_ROOM; mould++) {
                matches[mould] = new Match();
            }
        }
    }

    /** The best placement of a sheet on a mould, once it is known. */
    private static final class Match {
        boolean known = false;
        boolean possible = false;
        int score = 0;
        int orientation = 0;
        int offset = 0;
        int factor = 0;
        int state = NO_STATE;
    }

    /** A sheet as it looks in one of the four orientations. */
    private static final class View {
        final int[] spacings = new int[ROW_ROOM];
        int length = 0;
        int orientation = 0;
        int interval = NOT_SEEN;
        int x = 0;
        int y = 0;

        void turn(Sheet sheet, int orientation) {
            boolean reversed = orientation == 1 || orientation == 2;
            boolean upsideDown = orientation == 1 || orientation == 3;
            this.orientation = orientation;
            length = Math.min(sheet.spacings.length, ROW_ROOM);
            for (int j = 0; j < length; j++) {
                spacings[j] = sheet.spacings[reversed ? length - 1 - j : j];
            }
            interval = NOT_SEEN;
            if (sheet.interval >= 0 && sheet.interval < length) {
                int width = sheet.spacings[sheet.interval];
                interval = reversed ? length - 1 - sheet.interval : sheet.interval;
                x = reversed ? width - sheet.x : sheet.x;
                y = upsideDown ? HEIGHT - sheet.y : sheet.y;
            }
        }
    }
}
