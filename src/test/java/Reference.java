import java.util.ArrayList;
import java.util.Comparator;
import java.util.List;

/**
 * The document's words once more, without any thought of speed: every placement is listed and
 * sorted, and nothing is kept between calls. The random runs compare the program with it.
 */
final class Reference {
    record State(int x, int y) { }

    record Mould(List<Integer> spacings, int interval, List<State> states) { }

    record Sheet(List<Integer> spacings, int interval, int x, int y) { }

    record Placed(int score, int orientation, int offset, int factor, int state) { }

    private static final int NONE = -6;
    private final List<Integer> row = new ArrayList<>();
    private final List<Mould> moulds = new ArrayList<>();
    private final List<Sheet> sheets = new ArrayList<>();
    private final List<int[]> dates = new ArrayList<>();
    private int spacingTolerance = 5;
    private int markTolerance = 20;

    int answer(String name, int a, int b, int c) {
        switch (name) {
            case "clearRow": {
                int had = row.size();
                row.clear();
                return had;
            }
            case "addToRow": return addToRow(a);
            case "setTolerances": return setTolerances(a, b);
            case "addMould": return addMould(a, b, c);
            case "addState": return addState(a, b, c);
            case "removeState": return removeState(a);
            case "stateCount": return isMould(a) ? moulds.get(a).states().size() : -1;
            case "areTwins": return twins(a, b, false);
            case "twinDifference": return twins(a, b, true);
            case "addSheet": return addSheet(a, b, c);
            case "setDates": return setDates(a, b, c);
            case "count": return a == 0 ? moulds.size() : a == 1 ? sheets.size()
                    : a == 2 ? row.size() : -3;
            case "score": return placement(a, b, 4);
            case "placement": return c < 0 || c > 3 ? badPart(a, b) : placement(a, b, c);
            case "assignedMould": return !isSheet(a) ? -2 : assigned(a);
            case "rivalCount": return rivals(a, b);
            case "sheetsOf": return sheetsOf(a);
            case "sheetAt": return sheetAt(a, b);
            case "earliest": return !isSheet(a) ? -2 : earliest(a);
            case "latest": return !isSheet(a) ? -2 : latest(a);
            case "contradictionCount": return contradictions(a);
            default: throw new IllegalArgumentException(name);
        }
    }

    private boolean isMould(int a) {
        return a >= 0 && a < moulds.size();
    }

    private boolean isSheet(int a) {
        return a >= 0 && a < sheets.size();
    }

    private int addToRow(int spacing) {
        if (spacing < 100 || spacing > 450) return -3;
        if (row.size() == 10) return -5;
        row.add(spacing);
        return row.size();
    }

    private int setTolerances(int spacing, int mark) {
        if (spacing < 0 || spacing > 50 || mark < 0 || mark > 100) return -3;
        int changed = spacing != spacingTolerance || mark != markTolerance ? 1 : 0;
        spacingTolerance = spacing;
        markTolerance = mark;
        return changed;
    }

    private static boolean isMark(List<Integer> spacings, int interval, int x, int y) {
        if (interval < 0 || interval >= spacings.size()) return false;
        return x >= 0 && x <= spacings.get(interval) && y >= 0 && y <= 300;
    }

    private int addMould(int interval, int x, int y) {
        if (row.size() < 3) return -4;
        if (!isMark(row, interval, x, y)) return -3;
        if (moulds.size() == 10) return -5;
        List<State> states = new ArrayList<>();
        states.add(new State(x, y));
        moulds.add(new Mould(List.copyOf(row), interval, states));
        return moulds.size() - 1;
    }

    private int addState(int mould, int x, int y) {
        if (!isMould(mould)) return -1;
        Mould m = moulds.get(mould);
        if (!isMark(m.spacings(), m.interval(), x, y)) return -3;
        if (m.states().size() == 6) return -5;
        m.states().add(new State(x, y));
        return m.states().size() - 1;
    }

    private int removeState(int mould) {
        if (!isMould(mould)) return -1;
        List<State> states = moulds.get(mould).states();
        if (states.size() == 1) return NONE;
        states.remove(states.size() - 1);
        return states.size();
    }

    private int twins(int first, int second, boolean difference) {
        if (!isMould(first) || !isMould(second)) return -1;
        if (first == second) return -3;
        Mould a = moulds.get(first);
        Mould b = moulds.get(second);
        boolean twins = a.spacings().size() == b.spacings().size() && a.interval() == b.interval();
        int greatest = 0;
        for (int k = 0; twins && k < a.spacings().size(); k++) {
            greatest = Math.max(greatest, Math.abs(a.spacings().get(k) - b.spacings().get(k)));
        }
        twins = twins && greatest <= spacingTolerance;
        if (!difference) return twins ? 1 : 0;
        if (!twins) return NONE;
        greatest = Math.max(greatest, Math.abs(a.states().get(0).x() - b.states().get(0).x()));
        return Math.max(greatest, Math.abs(a.states().get(0).y() - b.states().get(0).y()));
    }

    private int addSheet(int interval, int x, int y) {
        if (row.size() < 2) return -4;
        if (interval != -1 && !isMark(row, interval, x, y)) return -3;
        if (sheets.size() == 30) return -5;
        sheets.add(new Sheet(List.copyOf(row), interval, x, y));
        dates.add(new int[] {0, 9999});
        return sheets.size() - 1;
    }

    private int setDates(int sheet, int first, int last) {
        if (!isSheet(sheet)) return -2;
        if (first < 0 || first > 9999 || last < first || last > 9999) return -3;
        int[] old = dates.set(sheet, new int[] {first, last});
        return old[0] == first && old[1] == last ? 0 : 1;
    }

    private static Sheet turned(Sheet sheet, int orientation) {
        List<Integer> spacings = new ArrayList<>(sheet.spacings());
        int n = spacings.size();
        int i = sheet.interval();
        int x = sheet.x();
        if (orientation == 1 || orientation == 2) {
            java.util.Collections.reverse(spacings);
            if (i != -1) {
                x = sheet.spacings().get(i) - x;
                i = n - 1 - i;
            }
        }
        int y = orientation == 1 || orientation == 3 ? 300 - sheet.y() : sheet.y();
        return new Sheet(spacings, i, x, y);
    }

    private Placed best(int sheet, int mould) {
        List<Placed> all = new ArrayList<>();
        Mould m = moulds.get(mould);
        for (int orientation = 0; orientation < 4; orientation++) {
            Sheet s = turned(sheets.get(sheet), orientation);
            for (int o = 0; o <= m.spacings().size() - s.spacings().size(); o++) {
                for (int p = 940; p <= 1000; p += 5) {
                    Placed placed = placed(s, m, orientation, o, p);
                    if (placed != null) all.add(placed);
                }
            }
        }
        return all.stream().min(Comparator.comparingInt(Placed::score)
                .thenComparingInt(Placed::orientation).thenComparingInt(Placed::offset)
                .thenComparing(Comparator.comparingInt(Placed::factor).reversed())).orElse(null);
    }

    private Placed placed(Sheet s, Mould m, int orientation, int o, int p) {
        int score = 0;
        for (int j = 0; j < s.spacings().size(); j++) {
            int deviation = Math.abs(s.spacings().get(j)
                    - Math.floorDiv(m.spacings().get(o + j) * p, 1000));
            if (deviation > spacingTolerance) return null;
            score += deviation;
        }
        if (s.interval() == -1) return new Placed(score, orientation, o, p, NONE);
        if (o + s.interval() != m.interval()) return null;
        int state = -1;
        int least = Integer.MAX_VALUE;
        for (int k = m.states().size() - 1; k >= 0; k--) {
            int dx = Math.abs(s.x() - Math.floorDiv(m.states().get(k).x() * p, 1000));
            int dy = Math.abs(s.y() - Math.floorDiv(m.states().get(k).y() * p, 1000));
            if (Math.max(dx, dy) <= markTolerance && dx + dy <= least) {
                state = k;
                least = dx + dy;
            }
        }
        return state == -1 ? null : new Placed(score + least, orientation, o, p, state);
    }

    private int badPart(int sheet, int mould) {
        return !isSheet(sheet) ? -2 : !isMould(mould) ? -1 : -3;
    }

    private int placement(int sheet, int mould, int what) {
        if (!isSheet(sheet)) return -2;
        if (!isMould(mould)) return -1;
        Placed b = best(sheet, mould);
        if (b == null) return NONE;
        return new int[] {b.orientation(), b.offset(), b.factor(), b.state(), b.score()}[what];
    }

    private int assigned(int sheet) {
        int mould = NONE;
        for (int k = moulds.size() - 1; k >= 0; k--) {
            Placed b = best(sheet, k);
            if (b != null && (mould == NONE || b.score() <= best(sheet, mould).score())) mould = k;
        }
        return mould;
    }

    private int rivals(int sheet, int margin) {
        if (!isSheet(sheet)) return -2;
        if (margin < 0 || margin > 1000) return -3;
        int mould = assigned(sheet);
        if (mould == NONE) return NONE;
        int rivals = 0;
        for (int k = 0; k < moulds.size(); k++) {
            Placed b = best(sheet, k);
            boolean near = b != null && b.score() <= best(sheet, mould).score() + margin;
            if (near && k != mould) rivals++;
        }
        return rivals;
    }

    private int sheetsOf(int mould) {
        if (!isMould(mould)) return -1;
        int set = 0;
        for (int k = 0; k < sheets.size(); k++) {
            if (assigned(k) == mould) set += 1 << k;
        }
        return set;
    }

    /** The sheets of a mould that have states, as pairs of sheet and state. */
    private List<int[]> stated(int mould) {
        List<int[]> stated = new ArrayList<>();
        for (int k = 0; k < sheets.size(); k++) {
            if (mould != NONE && sheets.get(k).interval() != -1 && assigned(k) == mould) {
                stated.add(new int[] {k, best(k, mould).state()});
            }
        }
        return stated;
    }

    private int earliest(int sheet) {
        return date(sheet, stated(assigned(sheet)), true);
    }

    private int latest(int sheet) {
        return date(sheet, stated(assigned(sheet)), false);
    }

    private int date(int sheet, List<int[]> stated, boolean first) {
        int date = dates.get(sheet)[first ? 0 : 1];
        for (int[] own : stated) {
            for (int[] other : stated) {
                if (own[0] == sheet && first && other[1] < own[1]) {
                    date = Math.max(date, dates.get(other[0])[0]);
                }
                if (own[0] == sheet && !first && other[1] > own[1]) {
                    date = Math.min(date, dates.get(other[0])[1]);
                }
            }
        }
        return date;
    }

    private int sheetAt(int mould, int place) {
        if (!isMould(mould)) return -1;
        if (place < 0) return -3;
        List<int[]> stated = stated(mould);
        List<int[]> order = new ArrayList<>();
        for (int[] pair : stated) {
            order.add(new int[] {pair[1], date(pair[0], stated, true), pair[0]});
        }
        order.sort(Comparator.<int[]>comparingInt(k -> k[0]).thenComparingInt(k -> k[1])
                .thenComparingInt(k -> k[2]));
        return place < order.size() ? order.get(place)[2] : NONE;
    }

    private int contradictions(int mould) {
        if (!isMould(mould)) return -1;
        List<int[]> stated = stated(mould);
        int pairs = 0;
        for (int[] a : stated) {
            for (int[] b : stated) {
                if (a[1] < b[1] && dates.get(a[0])[0] > dates.get(b[0])[1]) pairs++;
            }
        }
        return pairs;
    }
}
