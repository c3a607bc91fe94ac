/** Calls of the program by their names; a call takes as many of the arguments as it needs. */
final class Calls {
    private Calls() {
    }

    static int answer(MouldMatcher x, String name, int a, int b, int c) {
        switch (name) {
            case "clearRow": return x.clearRow();
            case "addToRow": return x.addToRow(a);
            case "setTolerances": return x.setTolerances(a, b);
            case "addMould": return x.addMould(a, b, c);
            case "addState": return x.addState(a, b, c);
            case "removeState": return x.removeState(a);
            case "stateCount": return x.stateCount(a);
            case "areTwins": return x.areTwins(a, b);
            case "twinDifference": return x.twinDifference(a, b);
            case "addSheet": return x.addSheet(a, b, c);
            case "setDates": return x.setDates(a, b, c);
            case "count": return x.count(a);
            case "score": return x.score(a, b);
            case "placement": return x.placement(a, b, c);
            case "assignedMould": return x.assignedMould(a);
            case "rivalCount": return x.rivalCount(a, b);
            case "sheetsOf": return x.sheetsOf(a);
            case "sheetAt": return x.sheetAt(a, b);
            case "earliest": return x.earliest(a);
            case "latest": return x.latest(a);
            case "contradictionCount": return x.contradictionCount(a);
            default: throw new IllegalArgumentException(name);
        }
    }
}
