/** Promises 25 to 27 at their edges: a test of its own for each sentence that names one. */
public final class RankingEdgesTest {
    private static final Class<?> BOUNDS = IndexOutOfBoundsException.class;
    private static final Class<?> ARGUMENT = IllegalArgumentException.class;
    private static final int NO = Desks.NO;
    private static final int MOST = Integer.MAX_VALUE;
    private static final int LEAST = Integer.MIN_VALUE;
    private static final int[] WRONG_LIMITS = {0, 31, -1, 32, -30, LEAST, MOST};

    /** All pairs of two rows and six columns: 30 full assignments, each with a cost of its own. */
    private static AssignmentDesk thirty() {
        AssignmentDesk desk = Desks.empty(2, 6);
        for (int column = 0; column < 6; column++) {
            desk.setCost(0, column, column * 10);
            desk.setCost(1, column, column);
        }
        return desk;
    }

    private static void sameColumns(AssignmentDesk desk, int index, int... due) {
        for (int row = 0; row < due.length; row++) {
            Check.same("rankedColumn(" + index + ", " + row + ")", desk.rankedColumn(index, row),
                    due[row]);
        }
    }

    // Promise 25: rank

    private static void promise25LimitsFrom1To30AreTaken() {
        AssignmentDesk desk = Desks.even(5, 1);
        for (int limit = 1; limit <= 30; limit++) {
            Check.same("rank(" + limit + ")", desk.rank(limit), limit);
        }
    }

    private static void promise25LimitsBeyondAreRefused() {
        AssignmentDesk desk = Desks.even(5, 1);
        for (int limit : WRONG_LIMITS) {
            Check.fails("rank(" + limit + ")", ARGUMENT, () -> desk.rank(limit));
            Check.fails("rankedCost(0)", BOUNDS, () -> desk.rankedCost(0));
        }
        AssignmentDesk none = new AssignmentDesk();
        Check.fails("rank(0) of nothing", ARGUMENT, () -> none.rank(0));
        Check.fails("rank(31) of nothing", ARGUMENT, () -> none.rank(31));
    }

    private static void promise25AListThatIsFull() {
        AssignmentDesk desk = thirty();
        Check.same("rank(30) of 30", desk.rank(30), 30);
        Check.same("rankedCost(29)", desk.rankedCost(29), 54);
        sameColumns(desk, 29, 5, 4);
        Check.same("rank(29) of 30", desk.rank(29), 29);
        Check.same("rankedCost(28)", desk.rankedCost(28), 53);
        Check.fails("rankedCost(29)", BOUNDS, () -> desk.rankedCost(29));
    }

    private static void promise25MoreThanAListHolds() {
        AssignmentDesk desk = Desks.empty(2, 7);
        for (int column = 0; column < 7; column++) {
            desk.setCost(0, column, -column * 10);
            desk.setCost(1, column, -column);
        }
        Check.same("rank(30) of 42", desk.rank(30), 30);
        int last = Integer.MIN_VALUE;
        for (int index = 0; index < 30; index++) {
            Check.same("in order", desk.rankedCost(index) > last, true);
            last = desk.rankedCost(index);
        }
        sameColumns(desk, 0, 6, 5);
        sameColumns(desk, 29, 2, 0);
    }

    private static void promise25LessThanTheLimit() {
        AssignmentDesk desk = Desks.of(Desks.row(1, 2, 3), Desks.row(1, 2, 3), Desks.row(1, 2, 3));
        Check.same("rank(30)", desk.rank(30), 6);
        Check.same("rank(7)", desk.rank(7), 6);
        Check.same("rank(6)", desk.rank(6), 6);
        Check.same("rank(5)", desk.rank(5), 5);
        AssignmentDesk one = Desks.of(Desks.row(3));
        Check.same("rank(30) of one", one.rank(30), 1);
        Check.same("rank(1) of one", one.rank(1), 1);
    }

    private static void promise25TheEmptyAssignmentIsAList() {
        AssignmentDesk none = new AssignmentDesk();
        Check.same("rank(30) of nothing", none.rank(30), 1);
        Check.same("rankedCost(0)", none.rankedCost(0), 0);
        AssignmentDesk bare = Desks.empty(10, 10);
        Check.same("rank(1) without pairs", bare.rank(1), 1);
        Check.same("rankedCost(0)", bare.rankedCost(0), 0);
        sameColumns(bare, 0, -1, -1, -1, -1, -1, -1, -1, -1, -1, -1);
        Check.fails("rankedCost(1)", BOUNDS, () -> bare.rankedCost(1));
    }

    private static void promise25NotOnlyOptimalOnes() {
        AssignmentDesk desk = Desks.empty(10, 10);
        for (int row = 0; row < 10; row++) {
            desk.setCost(row, row, -10000);
            desk.setCost(row, (row + 1) % 10, 10000);
        }
        Check.same("rank(30)", desk.rank(30), 2);
        Check.same("rankedCost(0)", desk.rankedCost(0), -100000);
        Check.same("rankedCost(1)", desk.rankedCost(1), 100000);
        sameColumns(desk, 1, 1, 2, 3, 4, 5, 6, 7, 8, 9, 0);
    }

    private static void promise25OnlyFullOnes() {
        AssignmentDesk desk = Desks.of(Desks.row(-10000, 10000), Desks.row(10000, NO));
        Check.same("rank(30)", desk.rank(30), 1);
        Check.same("rankedCost(0)", desk.rankedCost(0), 20000);
        sameColumns(desk, 0, 1, 0);
    }

    private static void promise25OfEqualOnesTheFirstStayAtTheLimit() {
        AssignmentDesk desk = Desks.even(3, 0);
        desk.rank(1);
        sameColumns(desk, 0, 0, 1, 2);
        desk.rank(2);
        sameColumns(desk, 1, 0, 2, 1);
        desk.rank(5);
        sameColumns(desk, 4, 2, 0, 1);
        desk.rank(6);
        sameColumns(desk, 5, 2, 1, 0);
    }

    private static void promise25ALaterCallReplacesTheList() {
        AssignmentDesk desk = thirty();
        desk.rank(30);
        Check.same("rank(1)", desk.rank(1), 1);
        Check.fails("rankedCost(1)", BOUNDS, () -> desk.rankedCost(1));
        desk.setRow(0, false);
        desk.setRow(1, false);
        Check.same("rank(30) without pairs", desk.rank(30), 1);
        Check.same("rankedCost(0)", desk.rankedCost(0), 0);
        sameColumns(desk, 0, -1, -1);
        desk.setRow(0, true);
        Check.same("rank(30) of one row", desk.rank(30), 6);
        sameColumns(desk, 5, 5, -1);
    }

    private static void promise25ARefusedCallKeepsTheList() {
        for (int limit : WRONG_LIMITS) {
            AssignmentDesk desk = thirty();
            desk.rank(2);
            desk.setCost(0, 0, 500);
            Check.fails("rank(" + limit + ")", ARGUMENT, () -> desk.rank(limit));
            Check.same("rankedCost(0)", desk.rankedCost(0), 1);
            Check.same("rankedCost(1)", desk.rankedCost(1), 2);
            Check.fails("rankedCost(2)", BOUNDS, () -> desk.rankedCost(2));
            sameColumns(desk, 1, 0, 2);
        }
    }

    private static void sameTwo(String name, AssignmentDesk desk) {
        Check.same("rankedCost(0) after " + name, desk.rankedCost(0), 3);
        Check.same("rankedCost(1) after " + name, desk.rankedCost(1), 4);
        Check.fails("rankedCost(2) after " + name, BOUNDS, () -> desk.rankedCost(2));
        sameColumns(desk, 0, 1, 0);
        sameColumns(desk, 1, 0, 1);
    }

    private static void promise25NoChangeAffectsTheList() {
        AssignmentDesk desk = Desks.of(Desks.row(4, 1), Desks.row(2, 0));
        desk.rank(30);
        desk.push();
        sameTwo("push", desk);
        desk.setCost(0, 0, -10000);
        sameTwo("setCost", desk);
        desk.forbid(0, 1);
        sameTwo("forbid", desk);
        desk.addToRow(1, 100);
        sameTwo("addToRow", desk);
        desk.scaleColumn(0, -1);
        sameTwo("scaleColumn", desk);
        desk.setRow(0, false);
        sameTwo("setRow", desk);
        desk.setColumn(1, false);
        sameTwo("setColumn", desk);
        desk.addRow();
        sameTwo("addRow", desk);
        desk.addColumn();
        sameTwo("addColumn", desk);
        desk.pop();
        sameTwo("pop", desk);
    }

    private static void promise25NoQuestionAffectsTheList() {
        AssignmentDesk desk = Desks.of(Desks.row(4, 1), Desks.row(2, 0));
        desk.rank(30);
        desk.setCost(0, 0, 7);
        desk.total();
        desk.optimalCount();
        desk.columnOf(0);
        desk.isCertain(0, 0);
        desk.regret(0, 0);
        desk.loss(0, 1);
        desk.greatestCost(1, 1);
        desk.digest();
        sameTwo("questions", desk);
    }

    // Promise 26: rankedCost

    private static void promise26FirstAndLastIndex() {
        AssignmentDesk desk = thirty();
        for (int limit : new int[] {1, 2, 29, 30}) {
            desk.rank(limit);
            Check.same("rankedCost(0)", desk.rankedCost(0), 1);
            Check.fails("rankedCost(-1)", BOUNDS, () -> desk.rankedCost(-1));
            Check.same("the last is taken", desk.rankedCost(limit - 1) >= 1, true);
            Check.fails("rankedCost behind the last", BOUNDS, () -> desk.rankedCost(limit));
        }
    }

    private static void promise26NoSuchIndex() {
        AssignmentDesk desk = Desks.even(2, 1);
        desk.rank(30);
        for (int index : new int[] {-1, 2, 3, 29, 30, 31, LEAST, MOST}) {
            Check.fails("rankedCost(" + index + ")", BOUNDS, () -> desk.rankedCost(index));
        }
    }

    private static void promise26NoList() {
        AssignmentDesk desk = Desks.even(3, 1);
        desk.total();
        Check.fails("rankedCost(0)", BOUNDS, () -> desk.rankedCost(0));
        Check.fails("rankedCost(-1)", BOUNDS, () -> desk.rankedCost(-1));
        Check.fails("rank(0)", ARGUMENT, () -> desk.rank(0));
        Check.fails("rankedCost(0) after a refusal", BOUNDS, () -> desk.rankedCost(0));
    }

    private static void promise26TheLeastAndTheGreatestCost() {
        AssignmentDesk desk = Desks.even(10, 10000);
        desk.rank(1);
        Check.same("the greatest", desk.rankedCost(0), 100000);
        AssignmentDesk least = Desks.even(10, -10000);
        least.rank(30);
        Check.same("the least", least.rankedCost(29), -100000);
    }

    // Promise 27: rankedColumn

    private static void promise27FirstAndLastIndexAndRow() {
        AssignmentDesk desk = Desks.even(10, 2);
        desk.rank(30);
        sameColumns(desk, 0, 0, 1, 2, 3, 4, 5, 6, 7, 8, 9);
        sameColumns(desk, 29, 0, 1, 2, 3, 4, 6, 5, 9, 8, 7);
        Check.fails("rankedColumn(30, 9)", BOUNDS, () -> desk.rankedColumn(30, 9));
        Check.fails("rankedColumn(29, 10)", BOUNDS, () -> desk.rankedColumn(29, 10));
        Check.fails("rankedColumn(-1, 0)", BOUNDS, () -> desk.rankedColumn(-1, 0));
        Check.fails("rankedColumn(0, -1)", BOUNDS, () -> desk.rankedColumn(0, -1));
    }

    private static void promise27NoSuchIndex() {
        AssignmentDesk desk = Desks.even(2, 1);
        desk.rank(30);
        for (int index : new int[] {-1, 2, 3, 29, 30, LEAST, MOST}) {
            Check.fails("rankedColumn(" + index + ", 0)", BOUNDS,
                    () -> desk.rankedColumn(index, 0));
        }
    }

    private static void promise27NoSuchRow() {
        AssignmentDesk desk = Desks.even(2, 1);
        desk.addColumn();
        desk.rank(30);
        for (int row : new int[] {-1, 2, 3, 9, 10, LEAST, MOST}) {
            Check.fails("rankedColumn(0, " + row + ")", BOUNDS, () -> desk.rankedColumn(0, row));
        }
        Check.fails("both", BOUNDS, () -> desk.rankedColumn(30, -1));
        AssignmentDesk none = new AssignmentDesk();
        none.rank(1);
        Check.fails("rankedColumn(0, 0) of nothing", BOUNDS, () -> none.rankedColumn(0, 0));
    }

    private static void promise27NoList() {
        AssignmentDesk desk = Desks.even(2, 1);
        Check.fails("rankedColumn(0, 0)", BOUNDS, () -> desk.rankedColumn(0, 0));
        Check.fails("rankedColumn(0, 2)", BOUNDS, () -> desk.rankedColumn(0, 2));
    }

    private static void promise27Minus1IfTheRowHasNone() {
        AssignmentDesk desk = Desks.of(Desks.row(1), Desks.row(2), Desks.row(3));
        desk.setRow(0, false);
        Check.same("rank(30)", desk.rank(30), 2);
        sameColumns(desk, 0, -1, 0, -1);
        sameColumns(desk, 1, -1, -1, 0);
    }

    private static void promise27Minus1IfTheRowDidNotExistYet() {
        AssignmentDesk desk = Desks.even(1, 1);
        desk.rank(30);
        Check.fails("before it exists", BOUNDS, () -> desk.rankedColumn(0, 1));
        for (int row = 1; row < 10; row++) {
            desk.addRow();
            desk.setCost(row, 0, -row);
            Check.same("rankedColumn(0, " + row + ")", desk.rankedColumn(0, row), -1);
        }
        sameColumns(desk, 0, 0);
        Check.same("rank(30) anew", desk.rank(30), 10);
        Check.same("rankedColumn(0, 9)", desk.rankedColumn(0, 9), 0);
    }

    private static void promise27AListOfNothingAndARowAddedSince() {
        AssignmentDesk none = new AssignmentDesk();
        none.rank(30);
        none.addRow();
        Check.same("rankedColumn(0, 0)", none.rankedColumn(0, 0), -1);
        Check.fails("rankedColumn(1, 0)", BOUNDS, () -> none.rankedColumn(1, 0));
        Check.fails("rankedColumn(0, 1)", BOUNDS, () -> none.rankedColumn(0, 1));
    }

    private static void promise27ARowOfALevelIsStillThereAfterPop() {
        AssignmentDesk desk = Desks.even(1, 1);
        desk.push();
        desk.addRow();
        desk.setCost(1, 0, -5);
        desk.rank(1);
        desk.pop();
        Check.same("rankedColumn(0, 0)", desk.rankedColumn(0, 0), -1);
        Check.same("rankedColumn(0, 1)", desk.rankedColumn(0, 1), 0);
        Check.same("rankedCost(0)", desk.rankedCost(0), -5);
    }

    private static void promise27ColumnNumbersUpTo9() {
        AssignmentDesk desk = Desks.empty(10, 10);
        for (int row = 0; row < 10; row++) {
            desk.setCost(row, 9 - row, row);
        }
        desk.rank(1);
        sameColumns(desk, 0, 9, 8, 7, 6, 5, 4, 3, 2, 1, 0);
    }

    public static void main(String[] args) {
        Check.runAll(RankingEdgesTest.class);
    }
}
