import java.util.NoSuchElementException;

/** Promises 1 to 13 at their edges: a test of its own for each sentence that names one. */
public final class TableEdgesTest {
    private static final Class<?> BOUNDS = IndexOutOfBoundsException.class;
    private static final Class<?> ARGUMENT = IllegalArgumentException.class;
    private static final Class<?> ARITHMETIC = ArithmeticException.class;
    private static final Class<?> ELEMENT = NoSuchElementException.class;
    private static final Class<?> STATE = IllegalStateException.class;
    private static final int NO = Desks.NO;
    private static final int MOST = Integer.MAX_VALUE;
    private static final int LEAST = Integer.MIN_VALUE;

    // Promise 1: "Creates a solver without rows, columns and levels."

    private static void promise1NoRows() {
        AssignmentDesk desk = new AssignmentDesk();
        Check.same("rowCount()", desk.rowCount(), 0);
        desk.addColumn();
        Check.fails("setRow(0, true)", BOUNDS, () -> desk.setRow(0, true));
        Check.fails("addToRow(0, 1)", BOUNDS, () -> desk.addToRow(0, 1));
        Check.fails("columnOf(0)", BOUNDS, () -> desk.columnOf(0));
        Check.fails("setCost(0, 0, 1)", BOUNDS, () -> desk.setCost(0, 0, 1));
        Check.fails("isAllowed(0, 0)", BOUNDS, () -> desk.isAllowed(0, 0));
        Check.fails("loss(0, 0)", BOUNDS, () -> desk.loss(0, 0));
    }

    private static void promise1NoColumns() {
        AssignmentDesk desk = new AssignmentDesk();
        Check.same("columnCount()", desk.columnCount(), 0);
        desk.addRow();
        Check.fails("setColumn(0, true)", BOUNDS, () -> desk.setColumn(0, true));
        Check.fails("scaleColumn(0, 1)", BOUNDS, () -> desk.scaleColumn(0, 1));
        Check.fails("rowOf(0)", BOUNDS, () -> desk.rowOf(0));
        Check.fails("setCost(0, 0, 1)", BOUNDS, () -> desk.setCost(0, 0, 1));
        Check.fails("isAllowed(0, 0)", BOUNDS, () -> desk.isAllowed(0, 0));
        Check.fails("loss(0, 0)", BOUNDS, () -> desk.loss(0, 0));
    }

    private static void promise1NoLevels() {
        AssignmentDesk desk = new AssignmentDesk();
        Check.fails("pop()", STATE, desk::pop);
        Check.same("push()", desk.push(), 1);
    }

    private static void promise1NoList() {
        AssignmentDesk desk = new AssignmentDesk();
        Check.fails("rankedCost(0)", BOUNDS, () -> desk.rankedCost(0));
        desk.addRow();
        Check.fails("rankedColumn(0, 0)", BOUNDS, () -> desk.rankedColumn(0, 0));
    }

    private static void promise1ObjectsShareNothing() {
        AssignmentDesk used = Desks.even(3, 5);
        used.rank(30);
        used.push();
        AssignmentDesk fresh = new AssignmentDesk();
        Check.same("rowCount()", fresh.rowCount(), 0);
        Check.same("columnCount()", fresh.columnCount(), 0);
        Check.same("size()", fresh.size(), 0);
        Check.fails("rankedCost(0)", BOUNDS, () -> fresh.rankedCost(0));
        Check.fails("pop()", STATE, fresh::pop);
        fresh.addRow();
        fresh.rank(1);
        Check.same("rowCount() of the other", used.rowCount(), 3);
        Check.same("total() of the other", used.total(), 15);
        Check.same("rankedCost(5) of the other", used.rankedCost(5), 15);
    }

    // Promise 2: "Adds a row. Returns the number of the row. Throws .. if there are 10 rows"

    private static void promise2TheFirstRowIs0AndTheTenth9() {
        AssignmentDesk desk = new AssignmentDesk();
        for (int row = 0; row < 10; row++) {
            Check.same("addRow()", desk.addRow(), row);
        }
    }

    private static void promise2TheEleventhRowIsRefused() {
        AssignmentDesk desk = Desks.empty(10, 0);
        Check.fails("addRow()", STATE, desk::addRow);
        Check.fails("addRow() again", STATE, desk::addRow);
        Check.same("rowCount()", desk.rowCount(), 10);
    }

    private static void promise2TenRowsLeaveRoomForColumns() {
        AssignmentDesk desk = Desks.empty(10, 9);
        Check.same("addColumn()", desk.addColumn(), 9);
    }

    private static void promise2RowsThatAreLeftOutTakeRoom() {
        AssignmentDesk desk = Desks.empty(10, 1);
        for (int row = 0; row < 10; row++) {
            desk.setRow(row, false);
        }
        Check.fails("addRow()", STATE, desk::addRow);
    }

    private static void promise2PopMakesNoRoom() {
        AssignmentDesk desk = Desks.empty(9, 1);
        desk.push();
        desk.addRow();
        desk.pop();
        Check.fails("addRow()", STATE, desk::addRow);
    }

    private static void promise2EachNewRowIsActive() {
        AssignmentDesk desk = Desks.empty(0, 1);
        for (int row = 0; row < 10; row++) {
            desk.addRow();
            desk.setCost(row, 0, -row);
            Check.same("rowOf(0)", desk.rowOf(0), row);
            Check.same("setRow(" + row + ", true)", desk.setRow(row, true), true);
        }
    }

    private static void promise2EachNewRowIsForbiddenThroughout() {
        AssignmentDesk desk = Desks.empty(0, 10);
        for (int row = 0; row < 10; row++) {
            desk.addRow();
            for (int column = 0; column < 10; column++) {
                Check.same("isAllowed", desk.isAllowed(row, column), false);
            }
        }
    }

    // Promise 3: "Adds a column. Returns the number of the column. Throws .. if there are 10"

    private static void promise3TheFirstColumnIs0AndTheTenth9() {
        AssignmentDesk desk = new AssignmentDesk();
        for (int column = 0; column < 10; column++) {
            Check.same("addColumn()", desk.addColumn(), column);
        }
    }

    private static void promise3TheEleventhColumnIsRefused() {
        AssignmentDesk desk = Desks.empty(0, 10);
        Check.fails("addColumn()", STATE, desk::addColumn);
        Check.fails("addColumn() again", STATE, desk::addColumn);
        Check.same("columnCount()", desk.columnCount(), 10);
    }

    private static void promise3TenColumnsLeaveRoomForRows() {
        AssignmentDesk desk = Desks.empty(9, 10);
        Check.same("addRow()", desk.addRow(), 9);
    }

    private static void promise3ColumnsThatAreLeftOutTakeRoom() {
        AssignmentDesk desk = Desks.empty(1, 10);
        for (int column = 0; column < 10; column++) {
            desk.setColumn(column, false);
        }
        Check.fails("addColumn()", STATE, desk::addColumn);
    }

    private static void promise3PopMakesNoRoom() {
        AssignmentDesk desk = Desks.empty(1, 9);
        desk.push();
        desk.addColumn();
        desk.pop();
        Check.fails("addColumn()", STATE, desk::addColumn);
    }

    private static void promise3EachNewColumnIsActive() {
        AssignmentDesk desk = Desks.empty(1, 0);
        for (int column = 0; column < 10; column++) {
            desk.addColumn();
            desk.setCost(0, column, -column);
            Check.same("columnOf(0)", desk.columnOf(0), column);
            Check.same("setColumn(" + column + ", true)", desk.setColumn(column, true), true);
        }
    }

    private static void promise3EachNewColumnIsForbiddenThroughout() {
        AssignmentDesk desk = Desks.empty(10, 0);
        for (int column = 0; column < 10; column++) {
            desk.addColumn();
            for (int row = 0; row < 10; row++) {
                Check.same("isAllowed", desk.isAllowed(row, column), false);
            }
        }
    }

    // Promise 4: setRow

    private static void promise4TheFirstAndTheLastRowAreTaken() {
        AssignmentDesk wide = Desks.empty(10, 3);
        Check.same("setRow(0, false)", wide.setRow(0, false), true);
        Check.same("setRow(9, false)", wide.setRow(9, false), true);
        AssignmentDesk three = Desks.empty(3, 1);
        Check.same("setRow(2, false)", three.setRow(2, false), true);
    }

    private static void promise4NoSuchRow() {
        AssignmentDesk three = Desks.empty(3, 5);
        for (int wrong : new int[] {-1, 3, 4, 10, 32, -32, LEAST, MOST}) {
            Check.fails("setRow(" + wrong + ")", BOUNDS, () -> three.setRow(wrong, true));
        }
        AssignmentDesk ten = Desks.empty(10, 1);
        Check.fails("setRow(10)", BOUNDS, () -> ten.setRow(10, false));
        Check.fails("setRow(-1)", BOUNDS, () -> ten.setRow(-1, false));
    }

    private static void promise4TellsWhetherItWasActiveBefore() {
        AssignmentDesk desk = Desks.empty(2, 1);
        Check.same("active to active", desk.setRow(1, true), true);
        Check.same("active to not", desk.setRow(1, false), true);
        Check.same("not to not", desk.setRow(1, false), false);
        Check.same("not to active", desk.setRow(1, true), false);
        Check.same("active again", desk.setRow(1, true), true);
        Check.same("the other row", desk.setRow(0, true), true);
    }

    private static void promise4OnlyThisRowIsLeftOut() {
        for (int out = 0; out < 10; out++) {
            AssignmentDesk desk = Desks.even(10, 1);
            desk.setRow(out, false);
            Check.same("size()", desk.size(), 9);
            for (int row = 0; row < 10; row++) {
                Check.same("columnOf(" + row + ")", desk.columnOf(row) < 0, row == out);
            }
        }
    }

    private static void promise4TheLastActiveRowCanBeLeftOut() {
        AssignmentDesk desk = Desks.of(Desks.row(7), Desks.row(8));
        desk.setRow(0, false);
        Check.same("total() of the other", desk.total(), 8);
        desk.setRow(1, false);
        Check.same("size()", desk.size(), 0);
        Check.same("total()", desk.total(), 0);
        Check.same("cost(0, 0) is still there", desk.cost(0, 0), 7);
        desk.setRow(0, true);
        Check.same("total() with it again", desk.total(), 7);
    }

    // Promise 5: setColumn

    private static void promise5TheFirstAndTheLastColumnAreTaken() {
        AssignmentDesk wide = Desks.empty(3, 10);
        Check.same("setColumn(0, false)", wide.setColumn(0, false), true);
        Check.same("setColumn(9, false)", wide.setColumn(9, false), true);
        AssignmentDesk three = Desks.empty(1, 3);
        Check.same("setColumn(2, false)", three.setColumn(2, false), true);
    }

    private static void promise5NoSuchColumn() {
        AssignmentDesk three = Desks.empty(5, 3);
        for (int wrong : new int[] {-1, 3, 4, 10, 32, -32, LEAST, MOST}) {
            Check.fails("setColumn(" + wrong + ")", BOUNDS, () -> three.setColumn(wrong, true));
        }
        AssignmentDesk ten = Desks.empty(1, 10);
        Check.fails("setColumn(10)", BOUNDS, () -> ten.setColumn(10, false));
        Check.fails("setColumn(-1)", BOUNDS, () -> ten.setColumn(-1, false));
    }

    private static void promise5TellsWhetherItWasActiveBefore() {
        AssignmentDesk desk = Desks.empty(1, 2);
        Check.same("active to active", desk.setColumn(1, true), true);
        Check.same("active to not", desk.setColumn(1, false), true);
        Check.same("not to not", desk.setColumn(1, false), false);
        Check.same("not to active", desk.setColumn(1, true), false);
        Check.same("active again", desk.setColumn(1, true), true);
        Check.same("the other column", desk.setColumn(0, true), true);
    }

    private static void promise5OnlyThisColumnIsLeftOut() {
        for (int out = 0; out < 10; out++) {
            AssignmentDesk desk = Desks.even(10, 1);
            desk.setColumn(out, false);
            Check.same("size()", desk.size(), 9);
            for (int column = 0; column < 10; column++) {
                Check.same("rowOf(" + column + ")", desk.rowOf(column) < 0, column == out);
            }
        }
    }

    private static void promise5TheLastActiveColumnCanBeLeftOut() {
        AssignmentDesk desk = Desks.of(Desks.row(7, 8));
        desk.setColumn(0, false);
        Check.same("total() of the other", desk.total(), 8);
        desk.setColumn(1, false);
        Check.same("size()", desk.size(), 0);
        Check.same("total()", desk.total(), 0);
        Check.same("cost(0, 0) is still there", desk.cost(0, 0), 7);
        desk.setColumn(0, true);
        Check.same("total() with it again", desk.total(), 7);
    }

    // Promise 6: setCost

    private static void promise6TheLeastAndTheGreatestCostAreTaken() {
        AssignmentDesk desk = Desks.empty(1, 1);
        for (int cost : new int[] {-10000, 10000, -9999, 9999, 0, -1, 1}) {
            desk.setCost(0, 0, cost);
            Check.same("cost(0, 0)", desk.cost(0, 0), cost);
            Check.same("total()", desk.total(), cost);
        }
    }

    private static void promise6CostsBeyondAreRefused() {
        AssignmentDesk desk = Desks.empty(1, 1);
        int[] beyond = {-10001, 10001, -20000, 20000, 65536, -65536, LEAST, MOST};
        for (int cost : beyond) {
            Check.fails("setCost(0, 0, " + cost + ")", ARGUMENT, () -> desk.setCost(0, 0, cost));
            Check.same("isAllowed(0, 0)", desk.isAllowed(0, 0), false);
        }
        desk.setCost(0, 0, 4);
        for (int cost : beyond) {
            Check.fails("setCost(0, 0, " + cost + ")", ARGUMENT, () -> desk.setCost(0, 0, cost));
            Check.same("cost(0, 0)", desk.cost(0, 0), 4);
        }
    }

    private static void promise6TellsWhetherThePairWasAllowedBefore() {
        AssignmentDesk desk = Desks.empty(2, 2);
        Check.same("forbidden at first", desk.setCost(1, 1, 0), false);
        Check.same("allowed, the same cost", desk.setCost(1, 1, 0), true);
        Check.same("allowed, another cost", desk.setCost(1, 1, 1), true);
        desk.forbid(1, 1);
        Check.same("forbidden again", desk.setCost(1, 1, 1), false);
        Check.same("a pair beside it", desk.setCost(1, 0, 1), false);
    }

    private static void promise6FirstAndLastRowAndColumnAreTaken() {
        AssignmentDesk desk = Desks.empty(10, 10);
        int[][] corners = {{0, 0}, {0, 9}, {9, 0}, {9, 9}};
        for (int k = 0; k < 4; k++) {
            Check.same("setCost", desk.setCost(corners[k][0], corners[k][1], k), false);
        }
        for (int k = 0; k < 4; k++) {
            Check.same("cost", desk.cost(corners[k][0], corners[k][1]), k);
        }
    }

    private static void promise6NoSuchRowOrColumn() {
        AssignmentDesk desk = Desks.empty(2, 3);
        Check.same("setCost(1, 2, 5)", desk.setCost(1, 2, 5), false);
        Check.fails("setCost(2, 2, 5)", BOUNDS, () -> desk.setCost(2, 2, 5));
        Check.fails("setCost(1, 3, 5)", BOUNDS, () -> desk.setCost(1, 3, 5));
        Check.fails("setCost(-1, 0, 5)", BOUNDS, () -> desk.setCost(-1, 0, 5));
        Check.fails("setCost(0, -1, 5)", BOUNDS, () -> desk.setCost(0, -1, 5));
        Check.fails("setCost(1, -1, 5)", BOUNDS, () -> desk.setCost(1, -1, 5));
        Check.fails("setCost(MOST, 0, 5)", BOUNDS, () -> desk.setCost(MOST, 0, 5));
        Check.fails("setCost(0, LEAST, 5)", BOUNDS, () -> desk.setCost(0, LEAST, 5));
        AssignmentDesk full = Desks.empty(10, 10);
        Check.fails("setCost(10, 9, 5)", BOUNDS, () -> full.setCost(10, 9, 5));
        Check.fails("setCost(9, 10, 5)", BOUNDS, () -> full.setCost(9, 10, 5));
    }

    private static void promise6TheMissingPairIsToldBeforeTheCost() {
        AssignmentDesk desk = Desks.empty(2, 3);
        Check.fails("row and cost", BOUNDS, () -> desk.setCost(2, 0, 10001));
        Check.fails("column and cost", BOUNDS, () -> desk.setCost(0, 3, -10001));
        Check.fails("all three", BOUNDS, () -> desk.setCost(-1, -1, MOST));
        Check.fails("only the cost", ARGUMENT, () -> desk.setCost(1, 2, 10001));
    }

    private static void promise6RowsAndColumnsLeftOutAreTaken() {
        AssignmentDesk desk = Desks.empty(2, 2);
        desk.setRow(0, false);
        desk.setColumn(1, false);
        Check.same("a row left out", desk.setCost(0, 0, 3), false);
        Check.same("a column left out", desk.setCost(1, 1, 4), false);
        Check.same("size()", desk.size(), 0);
        desk.setRow(0, true);
        desk.setColumn(1, true);
        Check.same("total()", desk.total(), 7);
    }

    // Promise 7: forbid

    private static void promise7TellsWhetherThePairWasAllowedBefore() {
        AssignmentDesk desk = Desks.empty(1, 2);
        Check.same("forbidden at first", desk.forbid(0, 0), false);
        desk.setCost(0, 0, -10000);
        Check.same("allowed", desk.forbid(0, 0), true);
        Check.same("forbidden", desk.forbid(0, 0), false);
        desk.setCost(0, 0, 10000);
        Check.same("allowed again", desk.forbid(0, 0), true);
    }

    private static void promise7OnlyThisPair() {
        AssignmentDesk desk = Desks.even(3, 2);
        desk.forbid(1, 1);
        for (int row = 0; row < 3; row++) {
            for (int column = 0; column < 3; column++) {
                boolean isOther = row != 1 || column != 1;
                Check.same("isAllowed", desk.isAllowed(row, column), isOther);
            }
        }
    }

    private static void promise7TheLastPair() {
        AssignmentDesk desk = Desks.of(Desks.row(9));
        desk.forbid(0, 0);
        Check.same("size()", desk.size(), 0);
        Check.same("total()", desk.total(), 0);
        Check.same("columnOf(0)", desk.columnOf(0), -1);
    }

    private static void promise7FirstAndLastRowAndColumnAreTaken() {
        AssignmentDesk desk = Desks.even(10, 1);
        int[][] corners = {{0, 0}, {0, 9}, {9, 0}, {9, 9}};
        for (int[] corner : corners) {
            Check.same("forbid", desk.forbid(corner[0], corner[1]), true);
            Check.same("isAllowed", desk.isAllowed(corner[0], corner[1]), false);
        }
    }

    private static void promise7NoSuchRowOrColumn() {
        AssignmentDesk desk = Desks.empty(3, 2);
        Check.same("forbid(2, 1)", desk.forbid(2, 1), false);
        Check.fails("forbid(3, 1)", BOUNDS, () -> desk.forbid(3, 1));
        Check.fails("forbid(1, 2)", BOUNDS, () -> desk.forbid(1, 2));
        Check.fails("forbid(-1, 0)", BOUNDS, () -> desk.forbid(-1, 0));
        Check.fails("forbid(1, -1)", BOUNDS, () -> desk.forbid(1, -1));
        Check.fails("forbid(LEAST, 0)", BOUNDS, () -> desk.forbid(LEAST, 0));
        Check.fails("forbid(0, MOST)", BOUNDS, () -> desk.forbid(0, MOST));
        AssignmentDesk full = Desks.empty(10, 10);
        Check.fails("forbid(10, 9)", BOUNDS, () -> full.forbid(10, 9));
        Check.fails("forbid(9, 10)", BOUNDS, () -> full.forbid(9, 10));
    }

    private static void promise7RowsAndColumnsLeftOutAreTaken() {
        AssignmentDesk desk = Desks.even(2, 6);
        desk.setRow(0, false);
        desk.setColumn(1, false);
        Check.same("a row left out", desk.forbid(0, 0), true);
        Check.same("a column left out", desk.forbid(1, 1), true);
        desk.setRow(0, true);
        desk.setColumn(1, true);
        Check.same("isAllowed(0, 0)", desk.isAllowed(0, 0), false);
        Check.same("isAllowed(1, 1)", desk.isAllowed(1, 1), false);
    }

    // Promise 8: addToRow

    private static void promise8TheNumberOfAllowedPairs() {
        AssignmentDesk desk = Desks.empty(2, 10);
        Check.same("none", desk.addToRow(0, 5), 0);
        for (int column = 0; column < 10; column++) {
            desk.setCost(0, column, column);
            Check.same("addToRow(0, 1)", desk.addToRow(0, 1), column + 1);
        }
        Check.same("cost(0, 0)", desk.cost(0, 0), 10);
        Check.same("cost(0, 9)", desk.cost(0, 9), 10);
        Check.same("the other row", desk.addToRow(1, 1), 0);
    }

    private static void promise8Adding0Counts() {
        AssignmentDesk desk = Desks.of(Desks.row(10000, NO, -10000));
        Check.same("addToRow(0, 0)", desk.addToRow(0, 0), 2);
        Check.same("cost(0, 0)", desk.cost(0, 0), 10000);
        Check.same("cost(0, 2)", desk.cost(0, 2), -10000);
    }

    private static void promise8UpToTheGreatestCost() {
        AssignmentDesk desk = Desks.of(Desks.row(-10000));
        Check.fails("addToRow(0, 20001)", ARITHMETIC, () -> desk.addToRow(0, 20001));
        Check.same("addToRow(0, 20000)", desk.addToRow(0, 20000), 1);
        Check.same("cost(0, 0)", desk.cost(0, 0), 10000);
        Check.fails("addToRow(0, 1)", ARITHMETIC, () -> desk.addToRow(0, 1));
        Check.same("cost(0, 0) then", desk.cost(0, 0), 10000);
    }

    private static void promise8DownToTheLeastCost() {
        AssignmentDesk desk = Desks.of(Desks.row(10000));
        Check.fails("addToRow(0, -20001)", ARITHMETIC, () -> desk.addToRow(0, -20001));
        Check.same("addToRow(0, -20000)", desk.addToRow(0, -20000), 1);
        Check.same("cost(0, 0)", desk.cost(0, 0), -10000);
        Check.fails("addToRow(0, -1)", ARITHMETIC, () -> desk.addToRow(0, -1));
        Check.same("cost(0, 0) then", desk.cost(0, 0), -10000);
    }

    private static void promise8ASumDoesNotWrapAround() {
        int[] costs = {-10000, -1, 0, 1, 10000};
        for (int cost : costs) {
            AssignmentDesk desk = Desks.of(Desks.row(cost));
            for (int amount : new int[] {MOST, LEAST, MOST - 9999, LEAST + 10000}) {
                Check.fails(cost + " and " + amount, ARITHMETIC, () -> desk.addToRow(0, amount));
                Check.same("cost(0, 0)", desk.cost(0, 0), cost);
            }
        }
    }

    private static void promise8OneCostIsEnoughToRefuse() {
        AssignmentDesk first = Desks.of(Desks.row(10000, 1, 2));
        Check.fails("the first", ARITHMETIC, () -> first.addToRow(0, 1));
        Check.same("cost(0, 1)", first.cost(0, 1), 1);
        Check.same("cost(0, 2)", first.cost(0, 2), 2);
        AssignmentDesk last = Desks.of(Desks.row(1, 2, -10000));
        Check.fails("the last", ARITHMETIC, () -> last.addToRow(0, -1));
        Check.same("cost(0, 0)", last.cost(0, 0), 1);
        Check.same("cost(0, 1)", last.cost(0, 1), 2);
        AssignmentDesk tenth = Desks.even(10, 0);
        tenth.setCost(3, 9, 9990);
        Check.fails("the tenth", ARITHMETIC, () -> tenth.addToRow(3, 11));
        Check.same("addToRow(3, 10)", tenth.addToRow(3, 10), 10);
    }

    private static void promise8ARowWithoutPairsTakesAnyNumber() {
        AssignmentDesk desk = Desks.of(Desks.row(NO, NO), Desks.row(10000, -10000));
        for (int amount : new int[] {0, 20001, -20001, MOST, LEAST}) {
            Check.same("addToRow(0, " + amount + ")", desk.addToRow(0, amount), 0);
        }
        Check.same("isAllowed(0, 0)", desk.isAllowed(0, 0), false);
        Check.same("cost(1, 0)", desk.cost(1, 0), 10000);
    }

    private static void promise8PairsThatAreNotUsableCount() {
        AssignmentDesk desk = Desks.of(Desks.row(1, 9999));
        desk.setColumn(1, false);
        Check.same("a column left out", desk.addToRow(0, 1), 2);
        Check.fails("a column left out refuses", ARITHMETIC, () -> desk.addToRow(0, 1));
        desk.setRow(0, false);
        Check.fails("a row left out refuses", ARITHMETIC, () -> desk.addToRow(0, 1));
        Check.same("a row left out", desk.addToRow(0, -2), 2);
        Check.same("cost(0, 0)", desk.cost(0, 0), 0);
        Check.same("cost(0, 1)", desk.cost(0, 1), 9998);
    }

    private static void promise8FirstAndLastRowAndNoOther() {
        AssignmentDesk desk = Desks.even(10, 1);
        Check.same("addToRow(0, 2)", desk.addToRow(0, 2), 10);
        Check.same("addToRow(9, 3)", desk.addToRow(9, 3), 10);
        for (int column = 0; column < 10; column++) {
            Check.same("cost in row 0", desk.cost(0, column), 3);
            Check.same("cost in row 1", desk.cost(1, column), 1);
            Check.same("cost in row 8", desk.cost(8, column), 1);
            Check.same("cost in row 9", desk.cost(9, column), 4);
        }
    }

    private static void promise8NoSuchRow() {
        AssignmentDesk desk = Desks.empty(2, 4);
        for (int wrong : new int[] {-1, 2, 3, 10, LEAST, MOST}) {
            Check.fails("addToRow(" + wrong + ", 0)", BOUNDS, () -> desk.addToRow(wrong, 0));
        }
        AssignmentDesk full = Desks.even(10, 0);
        Check.fails("addToRow(10, 0)", BOUNDS, () -> full.addToRow(10, 0));
        Check.fails("addToRow(-1, 0)", BOUNDS, () -> full.addToRow(-1, 0));
    }

    private static void promise8TheMissingRowIsToldBeforeTheSum() {
        AssignmentDesk desk = Desks.even(2, 10000);
        Check.fails("addToRow(2, MOST)", BOUNDS, () -> desk.addToRow(2, MOST));
        Check.fails("addToRow(-1, LEAST)", BOUNDS, () -> desk.addToRow(-1, LEAST));
    }

    // Promise 9: scaleColumn

    private static int scaled(int cost, double factor) {
        AssignmentDesk desk = Desks.of(Desks.row(cost));
        desk.scaleColumn(0, factor);
        return desk.cost(0, 0);
    }

    private static void promise9OfTwoEquallyNearOnesTheEvenOne() {
        Check.same("0.5", scaled(1, 0.5), 0);
        Check.same("1.5", scaled(3, 0.5), 2);
        Check.same("2.5", scaled(5, 0.5), 2);
        Check.same("3.5", scaled(7, 0.5), 4);
        Check.same("-0.5", scaled(-1, 0.5), 0);
        Check.same("-1.5", scaled(-3, 0.5), -2);
        Check.same("-2.5", scaled(5, -0.5), -2);
        Check.same("-3.5", scaled(7, -0.5), -4);
        Check.same("99.5", scaled(1, 99.5), 100);
        Check.same("9997.5", scaled(1333, 7.5), 9998);
        Check.same("4999.5", scaled(9999, 0.5), 5000);
        Check.same("-4999.5", scaled(-9999, 0.5), -5000);
    }

    private static void promise9ElseTheNearestOne() {
        Check.same("just below 0.5", scaled(1, 0.49999999999999994), 0);
        Check.same("just above 0.5", scaled(1, 0.5000000000000001), 1);
        Check.same("just below 1.5", scaled(1, 1.4999999999999998), 1);
        Check.same("just above 2.5", scaled(1, 2.5000000000000004), 3);
        Check.same("just below -0.5", scaled(-1, 0.5000000000000001), -1);
        Check.same("just above -0.5", scaled(-1, 0.49999999999999994), 0);
        Check.same("1.25", scaled(5, 0.25), 1);
        Check.same("1.75", scaled(7, 0.25), 2);
        Check.same("-1.25", scaled(-5, 0.25), -1);
        Check.same("-1.75", scaled(-7, 0.25), -2);
    }

    /** The exact products would be 31.5, 10.5 and 54.5; those of doubles lie beside them. */
    private static void promise9ProductsAreThoseOfDoubles() {
        Check.same("45 * 0.7", scaled(45, 0.7), 31);
        Check.same("75 * 0.14", scaled(75, 0.14), 11);
        Check.same("100 * 0.545", scaled(100, 0.545), 55);
        Check.same("-45 * 0.7", scaled(-45, 0.7), -31);
        Check.same("45 * 0.1, which is a tie", scaled(45, 0.1), 4);
        Check.same("35 * 0.7, which is a tie", scaled(35, 0.7), 24);
        Check.same("10000 * 1.0000499999999999", scaled(10000, 1.0000499999999999), 10000);
    }

    private static void promise9FactorsFromMinus100To100AreTaken() {
        Check.same("100", scaled(3, 100), 300);
        Check.same("-100", scaled(3, -100), -300);
        Check.same("just below 100", scaled(100, 99.99999999999999), 10000);
        Check.same("0", scaled(3, 0.0), 0);
        Check.same("-0", scaled(3, -0.0), 0);
        Check.same("-0 with a cost below 0", scaled(-3, -0.0), 0);
        Check.same("the least double above 0", scaled(10000, Double.MIN_VALUE), 0);
        Check.same("1", scaled(-10000, 1), -10000);
        Check.same("-1", scaled(-10000, -1), 10000);
    }

    private static void promise9FactorsBeyondAreRefused() {
        double[] beyond = {Math.nextUp(100.0), Math.nextDown(-100.0), 101, -101, 1e300, -1e300,
            Double.MAX_VALUE, Double.POSITIVE_INFINITY, Double.NEGATIVE_INFINITY};
        for (double factor : beyond) {
            AssignmentDesk desk = Desks.of(Desks.row(1), Desks.row(0));
            Check.fails("factor " + factor, ARGUMENT, () -> desk.scaleColumn(0, factor));
            Check.same("cost(0, 0)", desk.cost(0, 0), 1);
        }
    }

    private static void promise9NaNIsRefused() {
        AssignmentDesk desk = Desks.of(Desks.row(1));
        Check.fails("NaN", ARGUMENT, () -> desk.scaleColumn(0, Double.NaN));
        AssignmentDesk bare = Desks.empty(1, 1);
        Check.fails("NaN without pairs", ARGUMENT, () -> bare.scaleColumn(0, Double.NaN));
    }

    private static void promise9AWrongFactorIsRefusedWithoutPairs() {
        AssignmentDesk bare = Desks.empty(0, 1);
        Check.fails("100.1", ARGUMENT, () -> bare.scaleColumn(0, 100.1));
        Check.fails("-100.1", ARGUMENT, () -> bare.scaleColumn(0, -100.1));
        Check.same("100", bare.scaleColumn(0, 100), 0);
    }

    private static void promise9UpToTheGreatestCost() {
        Check.same("100 * 100", scaled(100, 100), 10000);
        Check.same("10000.5 becomes 10000", scaled(6667, 1.5), 10000);
        AssignmentDesk desk = Desks.of(Desks.row(10000));
        double[] tooMuch = {1.0001, 1.00005, 2, 100, -1.0001};
        for (double factor : tooMuch) {
            Check.fails("10000 * " + factor, ARITHMETIC, () -> desk.scaleColumn(0, factor));
        }
        Check.same("cost(0, 0)", desk.cost(0, 0), 10000);
        AssignmentDesk other = Desks.of(Desks.row(101));
        Check.fails("101 * 100", ARITHMETIC, () -> other.scaleColumn(0, 100));
    }

    private static void promise9DownToTheLeastCost() {
        Check.same("100 * -100", scaled(100, -100), -10000);
        Check.same("-10000.5 becomes -10000", scaled(-6667, 1.5), -10000);
        AssignmentDesk desk = Desks.of(Desks.row(-10000));
        double[] tooMuch = {1.0001, 1.00005, 2, 100, -1.0001};
        for (double factor : tooMuch) {
            Check.fails("-10000 * " + factor, ARITHMETIC, () -> desk.scaleColumn(0, factor));
        }
        Check.same("cost(0, 0)", desk.cost(0, 0), -10000);
        AssignmentDesk other = Desks.of(Desks.row(101));
        Check.fails("101 * -100", ARITHMETIC, () -> other.scaleColumn(0, -100));
    }

    private static void promise9OneCostIsEnoughToRefuse() {
        AssignmentDesk first = Desks.of(Desks.row(5001), Desks.row(1), Desks.row(2));
        Check.fails("the first", ARITHMETIC, () -> first.scaleColumn(0, 2));
        Check.same("cost(1, 0)", first.cost(1, 0), 1);
        Check.same("cost(2, 0)", first.cost(2, 0), 2);
        AssignmentDesk last = Desks.of(Desks.row(1), Desks.row(2), Desks.row(-5001));
        Check.fails("the last", ARITHMETIC, () -> last.scaleColumn(0, 2));
        Check.same("cost(0, 0)", last.cost(0, 0), 1);
        Check.same("cost(1, 0)", last.cost(1, 0), 2);
        AssignmentDesk tenth = Desks.even(10, 0);
        tenth.setCost(9, 3, 5001);
        Check.fails("the tenth", ARITHMETIC, () -> tenth.scaleColumn(3, -2));
        tenth.setCost(9, 3, 5000);
        Check.same("scaleColumn(3, -2)", tenth.scaleColumn(3, -2), 1);
    }

    private static void promise9CountsOnlyCostsThatHaveChanged() {
        AssignmentDesk desk = Desks.of(Desks.row(0), Desks.row(1), Desks.row(2), Desks.row(NO),
                Desks.row(10));
        Check.same("* 1", desk.scaleColumn(0, 1), 0);
        Check.same("* 1.25: 0, 1 and 2 stay", desk.scaleColumn(0, 1.25), 1);
        Check.same("12.5 became 12", desk.cost(4, 0), 12);
        Check.same("2.5 became 2", desk.cost(2, 0), 2);
        Check.same("* -1: 0 stays", desk.scaleColumn(0, -1), 3);
        Check.same("* 0: 0 stays", desk.scaleColumn(0, 0), 3);
        Check.same("* 0 again", desk.scaleColumn(0, 0), 0);
        Check.same("isAllowed(3, 0)", desk.isAllowed(3, 0), false);
        Check.same("all ten", Desks.even(10, 7).scaleColumn(9, -1), 10);
    }

    private static void promise9AColumnWithoutPairs() {
        AssignmentDesk desk = Desks.of(Desks.row(NO, 10000), Desks.row(NO, 10000));
        for (double factor : new double[] {100, -100, 0, 2}) {
            Check.same("* " + factor, desk.scaleColumn(0, factor), 0);
        }
        Check.same("isAllowed(0, 0)", desk.isAllowed(0, 0), false);
        Check.same("cost(0, 1)", desk.cost(0, 1), 10000);
    }

    private static void promise9PairsThatAreNotUsableCount() {
        AssignmentDesk desk = Desks.of(Desks.row(1), Desks.row(4000));
        desk.setRow(1, false);
        Check.same("a row left out", desk.scaleColumn(0, 2), 2);
        Check.fails("a row left out refuses", ARITHMETIC, () -> desk.scaleColumn(0, 2));
        desk.setColumn(0, false);
        Check.fails("a column left out refuses", ARITHMETIC, () -> desk.scaleColumn(0, 2));
        Check.same("a column left out", desk.scaleColumn(0, -1), 2);
        Check.same("cost(0, 0)", desk.cost(0, 0), -2);
        Check.same("cost(1, 0)", desk.cost(1, 0), -8000);
    }

    private static void promise9FirstAndLastColumnAndNoOther() {
        AssignmentDesk desk = Desks.even(10, 1);
        Check.same("scaleColumn(0, 2)", desk.scaleColumn(0, 2), 10);
        Check.same("scaleColumn(9, 3)", desk.scaleColumn(9, 3), 10);
        for (int row = 0; row < 10; row++) {
            Check.same("cost in column 0", desk.cost(row, 0), 2);
            Check.same("cost in column 1", desk.cost(row, 1), 1);
            Check.same("cost in column 8", desk.cost(row, 8), 1);
            Check.same("cost in column 9", desk.cost(row, 9), 3);
        }
    }

    private static void promise9NoSuchColumn() {
        AssignmentDesk desk = Desks.empty(4, 2);
        for (int wrong : new int[] {-1, 2, 3, 10, LEAST, MOST}) {
            Check.fails("scaleColumn(" + wrong + ", 1)", BOUNDS, () -> desk.scaleColumn(wrong, 1));
        }
        AssignmentDesk full = Desks.even(10, 0);
        Check.fails("scaleColumn(10, 1)", BOUNDS, () -> full.scaleColumn(10, 1));
        Check.fails("scaleColumn(-1, 1)", BOUNDS, () -> full.scaleColumn(-1, 1));
    }

    private static void promise9TheMissingColumnIsToldFirst() {
        AssignmentDesk desk = Desks.even(2, 10000);
        Check.fails("and the factor", BOUNDS, () -> desk.scaleColumn(2, 100.5));
        Check.fails("and NaN", BOUNDS, () -> desk.scaleColumn(-1, Double.NaN));
        Check.fails("and a great product", BOUNDS, () -> desk.scaleColumn(2, 100));
    }

    private static void promise9TheFactorIsToldBeforeTheCosts() {
        AssignmentDesk desk = Desks.even(2, 10000);
        Check.fails("100.5", ARGUMENT, () -> desk.scaleColumn(1, 100.5));
        Check.fails("-101", ARGUMENT, () -> desk.scaleColumn(1, -101));
        Check.fails("infinity", ARGUMENT, () -> desk.scaleColumn(1, Double.POSITIVE_INFINITY));
        Check.fails("100", ARITHMETIC, () -> desk.scaleColumn(1, 100));
    }

    // Promises 10 and 11: rowCount, columnCount

    private static void promise10CountsFrom0To10() {
        AssignmentDesk desk = new AssignmentDesk();
        for (int count = 0; count < 10; count++) {
            Check.same("rowCount()", desk.rowCount(), count);
            desk.addRow();
        }
        Check.same("rowCount()", desk.rowCount(), 10);
        Check.fails("addRow()", STATE, desk::addRow);
        Check.same("rowCount() after a refusal", desk.rowCount(), 10);
        Check.same("columnCount()", desk.columnCount(), 0);
    }

    private static void promise10RowsLeftOutCount() {
        AssignmentDesk desk = Desks.empty(2, 1);
        desk.setRow(0, false);
        desk.setRow(1, false);
        Check.same("rowCount()", desk.rowCount(), 2);
    }

    private static void promise10RowsAddedSinceAPushCountAfterPop() {
        AssignmentDesk desk = Desks.empty(2, 1);
        desk.push();
        desk.addRow();
        desk.pop();
        Check.same("rowCount()", desk.rowCount(), 3);
    }

    private static void promise11CountsFrom0To10() {
        AssignmentDesk desk = new AssignmentDesk();
        for (int count = 0; count < 10; count++) {
            Check.same("columnCount()", desk.columnCount(), count);
            desk.addColumn();
        }
        Check.same("columnCount()", desk.columnCount(), 10);
        Check.fails("addColumn()", STATE, desk::addColumn);
        Check.same("columnCount() after a refusal", desk.columnCount(), 10);
        Check.same("rowCount()", desk.rowCount(), 0);
    }

    private static void promise11ColumnsLeftOutCount() {
        AssignmentDesk desk = Desks.empty(1, 2);
        desk.setColumn(0, false);
        desk.setColumn(1, false);
        Check.same("columnCount()", desk.columnCount(), 2);
    }

    private static void promise11ColumnsAddedSinceAPushCountAfterPop() {
        AssignmentDesk desk = Desks.empty(1, 2);
        desk.push();
        desk.addColumn();
        desk.pop();
        Check.same("columnCount()", desk.columnCount(), 3);
    }

    // Promise 12: isAllowed

    private static void promise12AllowedIsNotUsable() {
        AssignmentDesk desk = Desks.of(Desks.row(5, NO));
        desk.setRow(0, false);
        Check.same("a row left out", desk.isAllowed(0, 0), true);
        desk.setColumn(0, false);
        Check.same("a column left out, too", desk.isAllowed(0, 0), true);
        Check.same("a forbidden pair", desk.isAllowed(0, 1), false);
    }

    private static void promise12FirstAndLastRowAndColumn() {
        AssignmentDesk desk = Desks.empty(10, 10);
        int[][] corners = {{0, 0}, {0, 9}, {9, 0}, {9, 9}};
        for (int[] corner : corners) {
            Check.same("isAllowed", desk.isAllowed(corner[0], corner[1]), false);
            desk.setCost(corner[0], corner[1], 0);
            Check.same("isAllowed then", desk.isAllowed(corner[0], corner[1]), true);
        }
    }

    private static void promise12NoSuchRowOrColumn() {
        AssignmentDesk desk = Desks.even(2, 1);
        desk.addColumn();
        Check.same("isAllowed(1, 2)", desk.isAllowed(1, 2), false);
        Check.fails("isAllowed(2, 2)", BOUNDS, () -> desk.isAllowed(2, 2));
        Check.fails("isAllowed(1, 3)", BOUNDS, () -> desk.isAllowed(1, 3));
        Check.fails("isAllowed(-1, 0)", BOUNDS, () -> desk.isAllowed(-1, 0));
        Check.fails("isAllowed(1, -1)", BOUNDS, () -> desk.isAllowed(1, -1));
        Check.fails("isAllowed(MOST, 0)", BOUNDS, () -> desk.isAllowed(MOST, 0));
        Check.fails("isAllowed(0, LEAST)", BOUNDS, () -> desk.isAllowed(0, LEAST));
        AssignmentDesk full = Desks.even(10, 1);
        Check.fails("isAllowed(10, 9)", BOUNDS, () -> full.isAllowed(10, 9));
        Check.fails("isAllowed(9, 10)", BOUNDS, () -> full.isAllowed(9, 10));
    }

    // Promise 13: cost

    private static void promise13AForbiddenPairHasNone() {
        AssignmentDesk desk = Desks.of(Desks.row(NO, 0));
        Check.fails("forbidden at first", ELEMENT, () -> desk.cost(0, 0));
        desk.forbid(0, 1);
        Check.fails("forbidden again", ELEMENT, () -> desk.cost(0, 1));
    }

    private static void promise13APairThatIsNotUsableHasOne() {
        AssignmentDesk desk = Desks.of(Desks.row(-7));
        desk.setRow(0, false);
        desk.setColumn(0, false);
        Check.same("cost(0, 0)", desk.cost(0, 0), -7);
    }

    private static void promise13NoSuchRowOrColumn() {
        AssignmentDesk desk = Desks.even(2, 1);
        desk.addColumn();
        desk.setCost(1, 2, 8);
        Check.same("cost(1, 2)", desk.cost(1, 2), 8);
        Check.fails("cost(2, 2)", BOUNDS, () -> desk.cost(2, 2));
        Check.fails("cost(1, 3)", BOUNDS, () -> desk.cost(1, 3));
        Check.fails("cost(-1, 0)", BOUNDS, () -> desk.cost(-1, 0));
        Check.fails("cost(1, -1)", BOUNDS, () -> desk.cost(1, -1));
        Check.fails("cost(LEAST, 0)", BOUNDS, () -> desk.cost(LEAST, 0));
        Check.fails("cost(0, MOST)", BOUNDS, () -> desk.cost(0, MOST));
        AssignmentDesk full = Desks.even(10, 1);
        Check.fails("cost(10, 9)", BOUNDS, () -> full.cost(10, 9));
        Check.fails("cost(9, 10)", BOUNDS, () -> full.cost(9, 10));
    }

    private static void promise13TheMissingPairIsToldBeforeTheForbiddenOne() {
        AssignmentDesk desk = Desks.empty(2, 2);
        Check.fails("cost(2, 0)", BOUNDS, () -> desk.cost(2, 0));
        Check.fails("cost(0, 2)", BOUNDS, () -> desk.cost(0, 2));
        Check.fails("cost(0, 0)", ELEMENT, () -> desk.cost(0, 0));
    }

    public static void main(String[] args) {
        Check.runAll(TableEdgesTest.class);
    }
}
