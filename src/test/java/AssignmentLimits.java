/** The limits of assignments, rivals and sets of sheets: promises 16 to 18. */
final class AssignmentLimits {
    private static final int[] WRONG_SHEETS = {-1, 3, 29, 30, Integer.MAX_VALUE, Integer.MIN_VALUE};
    private final Sentences doc;

    AssignmentLimits(Sentences doc) {
        this.doc = doc;
    }

    void run() {
        assignedSheets();
        notAssigned();
        firstOfSeveral();
        presentMoulds();
        presentStates();
        presentTolerances();
        rivalArguments();
        margins();
        numbersOfRivals();
        sets();
        fullSets();
    }

    /** Moulds 200, 240, 220 with marks at these X in interval 0, tolerances 0 and 100. */
    private static MouldMatcher moulds(int... markX) {
        MouldMatcher x = new MouldMatcher();
        x.setTolerances(0, 100);
        Checks.row(x, 200, 240, 220);
        for (int position : markX) {
            x.addMould(0, position, 150);
        }
        return x;
    }

    // ---- promise 16

    private void assignedSheets() {
        doc.says(16, "`sheet`: number of a sheet");
        MouldMatcher x = moulds(50);
        x.addSheet(0, 50, 150);
        x.addSheet(-1, 0, 0);
        x.addSheet(0, 60, 150);
        doc.due("the first", x.assignedMould(0), 0);
        doc.due("the last", x.assignedMould(2), 0);
        doc.says(16, "NO_SUCH_SHEET");
        for (int wrong : WRONG_SHEETS) {
            doc.due("sheet " + wrong, x.assignedMould(wrong), -2);
        }
        doc.due("no sheets", moulds(50).assignedMould(0), -2);
    }

    private void notAssigned() {
        doc.says(16, "NONE if it is not assigned");
        MouldMatcher x = moulds();
        x.addSheet(-1, 0, 0);
        doc.due("no moulds", x.assignedMould(0), -6);
        Checks.row(x, 300, 300, 300);
        x.addMould(0, 0, 0);
        doc.due("no mould that fits", x.assignedMould(0), -6);
        Checks.row(x, 200, 240, 221);
        x.addMould(0, 0, 0);
        doc.due("one spacing off", x.assignedMould(0), -6);
        doc.says(0, "it is not assigned if it has no possible placement on any mould");
        doc.due("no rivals", x.rivalCount(0, 1000), -6);
        doc.due("not in the set of mould 0", x.sheetsOf(0), 0);
        doc.due("not in the set of mould 1", x.sheetsOf(1), 0);
        doc.due("in no order", x.sheetAt(0, 0), -6);
        Checks.row(x, 200, 240, 220);
        x.addMould(0, 0, 0);
        doc.due("a mould that fits", x.assignedMould(0), 2);
    }

    private void firstOfSeveral() {
        doc.says(0, "A sheet is assigned to the mould for which the score of its best placement is "
                + "least, the first one of several");
        MouldMatcher alike = moulds(50, 50, 50, 50, 50, 50, 50, 50, 50, 50);
        alike.addSheet(0, 60, 150);
        doc.due("ten alike", alike.assignedMould(0), 0);
        MouldMatcher sides = moulds(71, 70, 50, 70);
        sides.addSheet(0, 60, 150);
        doc.due("10 on either side", sides.assignedMould(0), 1);
        MouldMatcher last = moulds(52, 52, 52, 52, 52, 52, 52, 52, 52, 51);
        last.addSheet(0, 50, 150);
        doc.says(16, "the mould to which it is assigned");
        doc.due("the last of ten by one tenth", last.assignedMould(0), 9);
        MouldMatcher some = moulds(0, 151, 50);
        some.addSheet(0, 150, 150);
        doc.due("not one without a placement", some.assignedMould(0), 1);
        doc.due("the first has none", some.score(0, 0), -6);
    }

    private void presentMoulds() {
        doc.says(0, "Assignments always follow the present moulds, states and tolerances.");
        MouldMatcher x = moulds(60);
        x.addSheet(0, 50, 150);
        doc.due("the only mould", x.assignedMould(0), 0);
        x.addMould(0, 55, 150);
        doc.due("a better mould", x.assignedMould(0), 1);
        x.addMould(0, 45, 150);
        doc.due("one as good", x.assignedMould(0), 1);
        x.addMould(0, 50, 150);
        doc.due("one that is better still", x.assignedMould(0), 3);
        doc.due("its set", x.sheetsOf(3), 1);
        doc.due("the set of the first", x.sheetsOf(0), 0);
    }

    private void presentStates() {
        MouldMatcher x = moulds(60, 55);
        x.addSheet(0, 50, 150);
        doc.due("5 away", x.assignedMould(0), 1);
        x.addState(0, 54, 150);
        doc.due("a state 4 away", x.assignedMould(0), 0);
        doc.due("its number", x.placement(0, 0, 3), 1);
        x.addState(1, 50, 150);
        doc.due("a state at the place", x.assignedMould(0), 1);
        doc.due("its score", x.score(0, 1), 0);
        x.removeState(1);
        doc.due("it is removed", x.assignedMould(0), 0);
        x.removeState(0);
        doc.due("the other is removed", x.assignedMould(0), 1);
        doc.due("its old state", x.placement(0, 1, 3), 0);
        x.removeState(1);
        doc.due("the only state stays", x.assignedMould(0), 1);
    }

    private void presentTolerances() {
        MouldMatcher x = moulds(60);
        Checks.row(x, 201, 241, 221);
        x.addMould(0, 50, 150);
        Checks.row(x, 200, 240, 220);
        x.addSheet(0, 50, 150);
        doc.due("10 away", x.assignedMould(0), 0);
        doc.due("1, 1 and 1 are too much", x.score(0, 1), -6);
        x.setTolerances(1, 100);
        doc.due("1, 1 and 1", x.assignedMould(0), 1);
        x.setTolerances(0, 9);
        doc.due("neither", x.assignedMould(0), -6);
        x.setTolerances(0, 10);
        doc.due("10 away again", x.assignedMould(0), 0);
        x.setTolerances(0, 200);
        doc.due("a refused tolerance", x.assignedMould(0), 0);
    }

    // ---- promise 17

    private void rivalArguments() {
        MouldMatcher x = moulds(50, 55);
        x.addSheet(0, 50, 150);
        x.addSheet(0, 50, 150);
        Checks.row(x, 400, 400);
        x.addSheet(-1, 0, 0);
        doc.says(17, "`sheet`: number of a sheet");
        doc.due("the first", x.rivalCount(0, 5), 1);
        doc.due("the second", x.rivalCount(1, 5), 1);
        doc.says(17, "NO_SUCH_SHEET");
        for (int wrong : WRONG_SHEETS) {
            doc.due("sheet " + wrong, x.rivalCount(wrong, 0), -2);
            doc.due("before BAD_VALUE, sheet " + wrong, x.rivalCount(wrong, -1), -2);
        }
        doc.says(17, "`margin`: 0 to 1000");
        doc.due("0", x.rivalCount(0, 0), 0);
        doc.due("1000", x.rivalCount(0, 1000), 1);
        doc.says(17, "BAD_VALUE");
        for (int wrong : new int[] {-1, 1001, Integer.MAX_VALUE, Integer.MIN_VALUE}) {
            doc.due("margin " + wrong, x.rivalCount(0, wrong), -3);
            doc.due("before NONE, margin " + wrong, x.rivalCount(2, wrong), -3);
        }
        doc.says(17, "NONE if it is not assigned");
        doc.due("margin 0", x.rivalCount(2, 0), -6);
        doc.due("margin 1000", x.rivalCount(2, 1000), -6);
        MouldMatcher none = moulds();
        none.addSheet(-1, 0, 0);
        doc.due("no moulds", none.rivalCount(0, 0), -6);
    }

    private void margins() {
        doc.says(17, "the number of moulds, other than the one to which it is assigned, on which "
                + "its best placement has a score of at most that on the assigned mould plus margin");
        MouldMatcher x = moulds(70, 53, 57, 53, 47);
        x.addSheet(0, 50, 150);
        doc.due("it has 3", x.score(0, x.assignedMould(0)), 3);
        doc.due("0: as good", x.rivalCount(0, 0), 2);
        doc.due("3: less than 7", x.rivalCount(0, 3), 2);
        doc.due("4: just 7", x.rivalCount(0, 4), 3);
        doc.due("16: less than 20", x.rivalCount(0, 16), 3);
        doc.due("17: just 20", x.rivalCount(0, 17), 4);
        doc.due("1000", x.rivalCount(0, 1000), 4);
    }

    private void numbersOfRivals() {
        MouldMatcher alone = moulds(50);
        alone.addSheet(0, 50, 150);
        doc.due("one mould has no rivals", alone.rivalCount(0, 1000), 0);
        MouldMatcher all = moulds(50, 50, 50, 50, 50, 50, 50, 50, 50, 50);
        all.addSheet(0, 50, 150);
        doc.due("nine rivals", all.rivalCount(0, 0), 9);
        MouldMatcher far = moulds(50, 151, 150);
        far.addSheet(0, 50, 150);
        doc.due("100 away fits, 101 does not", far.rivalCount(0, 1000), 1);
        MouldMatcher most = new MouldMatcher();
        most.setTolerances(50, 100);
        Checks.row(most, 400, 400, 400, 400, 400, 400, 400, 400, 400, 400);
        most.addMould(0, 200, 150);
        Checks.row(most, 450, 450, 450, 450, 450, 450, 450, 450, 450, 450);
        most.addMould(0, 300, 250);
        most.addSheet(0, 300, 250);
        doc.due("699: less than the greatest score", most.rivalCount(0, 699), 0);
        doc.due("700: the greatest score", most.rivalCount(0, 700), 1);
    }

    // ---- promise 18

    private void sets() {
        doc.says(18, "`mould`: number of a mould");
        MouldMatcher x = moulds(50, 150);
        doc.due("the first, without sheets", x.sheetsOf(0), 0);
        doc.due("the last, without sheets", x.sheetsOf(1), 0);
        doc.says(18, "NO_SUCH_MOULD");
        doc.due("no moulds", moulds().sheetsOf(0), -1);
        for (int wrong : new int[] {-1, 2, 9, 10, Integer.MAX_VALUE, Integer.MIN_VALUE}) {
            doc.due("mould " + wrong, x.sheetsOf(wrong), -1);
        }
        doc.says(18, "the sheets assigned to it, as a bit set (bit k for sheet k)");
        x.addSheet(0, 50, 150);
        doc.due("bit 0", x.sheetsOf(0), 1);
        x.addSheet(0, 150, 150);
        doc.due("bit 1 of the other", x.sheetsOf(1), 2);
        x.addSheet(0, 100, 150);
        doc.due("50 from both: the first", x.sheetsOf(0), 5);
        doc.due("50 from both: not the other", x.sheetsOf(1), 2);
        x.addSheet(-1, 0, 0);
        doc.due("without a state", x.sheetsOf(0), 13);
    }

    private void fullSets() {
        MouldMatcher x = moulds(50);
        for (int sheet = 0; sheet < 29; sheet++) {
            x.addSheet(sheet % 2 - 1, 50, 150);
        }
        doc.due("29 sheets", x.sheetsOf(0), 0x1FFFFFFF);
        x.addSheet(0, 50, 150);
        doc.due("bit 29", x.sheetsOf(0), 0x3FFFFFFF);
        x.addSheet(0, 50, 150);
        doc.due("no bit 30", x.sheetsOf(0), 0x3FFFFFFF);
        x.setTolerances(0, 0);
        doc.due("still all", x.sheetsOf(0), 0x3FFFFFFF);
        x.addMould(0, 50, 150);
        doc.due("none for a mould as good", x.sheetsOf(1), 0);
    }
}
