import java.util.NoSuchElementException;

/** Promises 14 to 24: the optimum, and what it depends on. */
public final class OptimumTest {
    private static final Class<?> BOUNDS = IndexOutOfBoundsException.class;
    private static final Class<?> ELEMENT = NoSuchElementException.class;
    private static final int NO = Desks.NO;
    private static final int[] WRONG = {-1, 3, 10, Integer.MIN_VALUE, Integer.MAX_VALUE};

    /** Size 3; the optimal assignments cost 6: (0,0) (1,1) (2,2) and (0,1) (1,0) (2,2). */
    private static AssignmentDesk twoOptimal() {
        return Desks.of(Desks.row(1, 2, 9), Desks.row(2, 3, NO), Desks.row(NO, 8, 2));
    }

    private static void sizeAndTotal() {
        AssignmentDesk none = new AssignmentDesk();
        Check.same("14: size() of nothing", none.size(), 0);
        Check.same("15: total() of nothing", none.total(), 0);
        AssignmentDesk forbidden = Desks.empty(3, 2);
        Check.same("14: size() without pairs", forbidden.size(), 0);
        Check.same("15: total() without pairs", forbidden.total(), 0);
        AssignmentDesk desk = twoOptimal();
        Check.same("14: size()", desk.size(), 3);
        Check.same("15: total()", desk.total(), 6);
        AssignmentDesk one = Desks.of(Desks.row(10000, -10000));
        Check.same("14: one row", one.size(), 1);
        Check.same("15: one row", one.total(), -10000);
        AssignmentDesk larger = Desks.of(Desks.row(-10000, 10000), Desks.row(10000, NO));
        Check.same("14: size comes before cost", larger.size(), 2);
        Check.same("15: size comes before cost", larger.total(), 20000);
        Check.same("15: ten of the greatest cost", Desks.even(10, 10000).total(), 100000);
        Check.same("15: ten of the least cost", Desks.even(10, -10000).total(), -100000);
        Check.same("14: ten", Desks.even(10, -10000).size(), 10);
    }

    private static void sizeGrowsAgainstAllCosts() {
        AssignmentDesk desk = Desks.empty(10, 10);
        for (int row = 0; row < 9; row++) {
            desk.setCost(row, row, -10000);
        }
        Check.same("14: nine pairs", desk.size(), 9);
        Check.same("15: nine pairs", desk.total(), -90000);
        for (int row = 0; row < 10; row++) {
            desk.setCost(row, (row + 1) % 10, 10000);
        }
        Check.same("14: ten pairs", desk.size(), 10);
        Check.same("15: ten pairs", desk.total(), 100000);
    }

    private static void meanCost() {
        Check.same("16: nothing", new AssignmentDesk().meanCost(), 0.0);
        Check.same("16: no pairs", Desks.empty(2, 2).meanCost(), 0.0);
        Check.same("16: two thirds", Desks.of(Desks.row(1, NO, NO), Desks.row(NO, 1, NO),
                Desks.row(NO, NO, 0)).meanCost(), 2.0 / 3.0);
        Check.same("16: below 0", Desks.of(Desks.row(-3, NO), Desks.row(NO, 2)).meanCost(), -0.5);
        Check.same("16: total 0", Desks.of(Desks.row(-2, NO), Desks.row(NO, 2)).meanCost(), 0.0);
    }

    private static void kept() {
        AssignmentDesk desk = twoOptimal();
        int[] columns = {0, 1, 2};
        for (int row = 0; row < 3; row++) {
            Check.same("17: columnOf(" + row + ")", desk.columnOf(row), columns[row]);
            Check.same("18: rowOf(" + row + ")", desk.rowOf(row), row);
        }
        desk.setCost(0, 0, 2);
        Check.same("17: columnOf(0) then", desk.columnOf(0), 1);
        Check.same("17: columnOf(1) then", desk.columnOf(1), 0);
        Check.same("18: rowOf(0) then", desk.rowOf(0), 1);
        Check.same("18: rowOf(1) then", desk.rowOf(1), 0);
        for (int wrong : WRONG) {
            Check.failsUnchanged("17: columnOf(" + wrong + ")", desk, BOUNDS,
                    () -> desk.columnOf(wrong));
            Check.failsUnchanged("18: rowOf(" + wrong + ")", desk, BOUNDS,
                    () -> desk.rowOf(wrong));
        }
    }

    private static void keptOfEquals() {
        AssignmentDesk tall = Desks.of(Desks.row(1), Desks.row(1), Desks.row(1));
        Check.same("17: the smallest row has it", tall.columnOf(0), 0);
        Check.same("17: the others have none", tall.columnOf(1), -1);
        Check.same("18: rowOf(0)", tall.rowOf(0), 0);
        AssignmentDesk wide = Desks.of(Desks.row(1, 1, 1));
        Check.same("17: the smallest column", wide.columnOf(0), 0);
        Check.same("18: the others have none", wide.rowOf(2), -1);
        wide.setColumn(0, false);
        Check.same("17: the smallest active column", wide.columnOf(0), 1);
        AssignmentDesk square = Desks.even(10, 3);
        for (int row = 0; row < 10; row++) {
            Check.same("17: columnOf(" + row + ") of equals", square.columnOf(row), row);
        }
        AssignmentDesk last = Desks.of(Desks.row(NO, 0), Desks.row(NO, 0), Desks.row(0, 0));
        Check.same("17: a column before none", last.columnOf(0), 1);
        Check.same("17: none", last.columnOf(1), -1);
        Check.same("17: the rest", last.columnOf(2), 0);
    }

    private static void optimalCount() {
        Check.same("19: nothing", new AssignmentDesk().optimalCount(), 1);
        Check.same("19: no pairs", Desks.empty(2, 3).optimalCount(), 1);
        AssignmentDesk desk = twoOptimal();
        Check.same("19: two", desk.optimalCount(), 2);
        desk.setCost(0, 0, 0);
        Check.same("19: one", desk.optimalCount(), 1);
        AssignmentDesk most = Desks.even(10, -1);
        Check.same("19: all that ten can make", most.optimalCount(), 3628800);
        most.setRow(4, false);
        Check.same("19: nine of ten columns", most.optimalCount(), 3628800);
        most.setColumn(9, false);
        Check.same("19: nine", most.optimalCount(), 362880);
        most.setCost(0, 0, -2);
        Check.same("19: one that is settled", most.optimalCount(), 40320);
    }

    private static void possibleAndCertain() {
        AssignmentDesk desk = twoOptimal();
        boolean[][] possible = {{true, true, false}, {true, true, false}, {false, false, true}};
        for (int row = 0; row < 3; row++) {
            for (int column = 0; column < 3; column++) {
                String pair = "(" + row + ", " + column + ")";
                Check.same("20: isPossible" + pair, desk.isPossible(row, column),
                        possible[row][column]);
                Check.same("21: isCertain" + pair, desk.isCertain(row, column),
                        row == 2 && column == 2);
            }
        }
        desk.setRow(2, false);
        Check.same("20: a row that is not active", desk.isPossible(2, 2), false);
        Check.same("21: a row that is not active", desk.isCertain(2, 2), false);
        Check.same("20: a pair that is dear", desk.isPossible(0, 2), false);
        desk.setRow(2, true);
        desk.setColumn(2, false);
        Check.same("20: a column that is not active", desk.isPossible(2, 2), false);
        Check.same("21: a column that is not active", desk.isCertain(2, 2), false);
        AssignmentDesk two = Desks.of(Desks.row(3, 3));
        Check.same("20: one of two", two.isPossible(0, 1), true);
        Check.same("21: not both", two.isCertain(0, 0), false);
        AssignmentDesk only = Desks.of(Desks.row(3));
        Check.same("21: all full ones have it", only.isCertain(0, 0), true);
    }

    private static void regret() {
        AssignmentDesk desk = twoOptimal();
        Check.same("22: regret(0, 0)", desk.regret(0, 0), 0);
        Check.same("22: regret(0, 1)", desk.regret(0, 1), 0);
        Check.same("22: regret(0, 2)", desk.regret(0, 2), 13);
        Check.same("22: regret(2, 1)", desk.regret(2, 1), 13);
        Check.failsUnchanged("22: a forbidden pair", desk, ELEMENT, () -> desk.regret(1, 2));
        AssignmentDesk spoiling = Desks.of(Desks.row(1, 0), Desks.row(5, NO));
        Check.same("22: no full assignment with it", spoiling.regret(0, 0), -1);
        Check.same("22: the others", spoiling.regret(1, 0), 0);
        AssignmentDesk far = Desks.even(10, -10000);
        far.setCost(9, 9, 10000);
        Check.same("22: a dear pair", far.regret(9, 9), 20000);
    }

    private static void farRegretAndLoss() {
        AssignmentDesk far = Desks.empty(10, 10);
        for (int row = 0; row < 10; row++) {
            far.setCost(row, row, -10000);
            far.setCost(row, (row + 1) % 10, 10000);
        }
        Check.same("22: the farthest regret", far.regret(4, 5), 200000);
        Check.same("23: the farthest loss", far.loss(4, 4), 200000);
        Check.same("24: out of reach", far.greatestCost(4, 5), -20000);
        Check.same("24: more than a cost can be", far.greatestCost(4, 4), 10000);
    }

    private static void loss() {
        AssignmentDesk desk = twoOptimal();
        Check.same("23: loss(0, 0)", desk.loss(0, 0), 0);
        Check.same("23: loss(2, 2)", desk.loss(2, 2), 13);
        Check.same("23: a forbidden pair", desk.loss(1, 2), 0);
        Check.same("23: a pair that is not in it", desk.loss(0, 2), 0);
        AssignmentDesk only = Desks.of(Desks.row(3, NO), Desks.row(1, 2));
        Check.same("23: all full ones have it", only.loss(0, 0), -1);
        Check.same("23: and this one", only.loss(1, 1), -1);
        Check.same("23: none has it", only.loss(1, 0), 0);
        only.setRow(0, false);
        Check.same("23: a row that is not active", only.loss(0, 0), 0);
        Check.same("23: another way", only.loss(1, 0), 1);
    }

    private static void greatestCost() {
        AssignmentDesk desk = twoOptimal();
        Check.same("24: as it is", desk.greatestCost(0, 0), 1);
        Check.same("24: must be cheaper", desk.greatestCost(0, 2), -4);
        Check.same("24: may be dearer", desk.greatestCost(2, 2), 15);
        AssignmentDesk only = Desks.of(Desks.row(3, NO), Desks.row(1, 2));
        Check.same("24: all full ones have it", only.greatestCost(0, 0), 10000);
        Check.same("24: no full one has it", only.greatestCost(1, 0), -20000);
        AssignmentDesk edge = Desks.of(Desks.row(0, -10000));
        Check.same("24: the least cost", edge.greatestCost(0, 0), -10000);
        AssignmentDesk top = Desks.of(Desks.row(10000, 10000));
        Check.same("24: the greatest cost", top.greatestCost(0, 1), 10000);
        AssignmentDesk below = Desks.of(Desks.row(0, -10000), Desks.row(-9999, 0));
        Check.same("24: below the least cost", below.greatestCost(0, 0), -20000);
        Check.same("24: above the greatest cost", below.greatestCost(0, 1), 9999);
        desk.setColumn(2, false);
        Check.failsUnchanged("24: not active", desk, ELEMENT, () -> desk.greatestCost(2, 2));
        Check.failsUnchanged("22: not active", desk, ELEMENT, () -> desk.regret(2, 2));
        Check.failsUnchanged("24: forbidden", desk, ELEMENT, () -> desk.greatestCost(2, 0));
        desk.setRow(0, false);
        Check.failsUnchanged("24: row not active", desk, ELEMENT, () -> desk.greatestCost(0, 0));
        Check.failsUnchanged("22: row not active", desk, ELEMENT, () -> desk.regret(0, 0));
    }

    private static void wrongPairs() {
        AssignmentDesk desk = twoOptimal();
        for (int wrong : WRONG) {
            String ofRow = "(" + wrong + ", 0)";
            String ofColumn = "(0, " + wrong + ")";
            Check.failsUnchanged("20: isPossible" + ofRow, desk, BOUNDS,
                    () -> desk.isPossible(wrong, 0));
            Check.failsUnchanged("20: isPossible" + ofColumn, desk, BOUNDS,
                    () -> desk.isPossible(0, wrong));
            Check.failsUnchanged("21: isCertain" + ofRow, desk, BOUNDS,
                    () -> desk.isCertain(wrong, 0));
            Check.failsUnchanged("21: isCertain" + ofColumn, desk, BOUNDS,
                    () -> desk.isCertain(0, wrong));
            Check.failsUnchanged("22: regret" + ofRow, desk, BOUNDS, () -> desk.regret(wrong, 0));
            Check.failsUnchanged("22: regret" + ofColumn, desk, BOUNDS,
                    () -> desk.regret(0, wrong));
            Check.failsUnchanged("23: loss" + ofRow, desk, BOUNDS, () -> desk.loss(wrong, 0));
            Check.failsUnchanged("23: loss" + ofColumn, desk, BOUNDS, () -> desk.loss(0, wrong));
            Check.failsUnchanged("24: greatestCost" + ofRow, desk, BOUNDS,
                    () -> desk.greatestCost(wrong, 0));
            Check.failsUnchanged("24: greatestCost" + ofColumn, desk, BOUNDS,
                    () -> desk.greatestCost(0, wrong));
        }
    }

    public static void main(String[] args) {
        sizeAndTotal();
        sizeGrowsAgainstAllCosts();
        meanCost();
        kept();
        keptOfEquals();
        optimalCount();
        possibleAndCertain();
        regret();
        farRegretAndLoss();
        loss();
        greatestCost();
        wrongPairs();
        Check.end();
    }
}
