import java.util.NoSuchElementException;

/** Promises 1 to 13: a new object, and the table. */
public final class TableTest {
    private static final Class<?> BOUNDS = IndexOutOfBoundsException.class;
    private static final Class<?> ARGUMENT = IllegalArgumentException.class;
    private static final Class<?> ARITHMETIC = ArithmeticException.class;
    private static final int[] WRONG = {-1, 2, 10, Integer.MIN_VALUE, Integer.MAX_VALUE};

    private static void newObject() {
        AssignmentDesk desk = new AssignmentDesk();
        Check.same("1: rowCount()", desk.rowCount(), 0);
        Check.same("1: columnCount()", desk.columnCount(), 0);
        Check.same("1: size()", desk.size(), 0);
        Check.same("1: total()", desk.total(), 0);
        Check.fails("1: pop()", IllegalStateException.class, desk::pop);
        Check.fails("1: columnOf(0)", BOUNDS, () -> desk.columnOf(0));
        Check.fails("1: rowOf(0)", BOUNDS, () -> desk.rowOf(0));
    }

    private static void addRow() {
        AssignmentDesk desk = new AssignmentDesk();
        desk.addColumn();
        for (int row = 0; row < 10; row++) {
            Check.same("2: addRow()", desk.addRow(), row);
            Check.same("2: isAllowed of a new row", desk.isAllowed(row, 0), false);
            Check.same("2: rowCount()", desk.rowCount(), row + 1);
        }
        Check.failsUnchanged("2: addRow() with 10 rows", desk, IllegalStateException.class,
                desk::addRow);
        Check.same("2: rowCount()", desk.rowCount(), 10);
        for (int row = 0; row < 10; row++) {
            Check.same("2: a new row is active", desk.setRow(row, true), true);
        }
    }

    private static void addColumn() {
        AssignmentDesk desk = new AssignmentDesk();
        desk.addRow();
        for (int column = 0; column < 10; column++) {
            Check.same("3: addColumn()", desk.addColumn(), column);
            Check.same("3: isAllowed of a new column", desk.isAllowed(0, column), false);
            Check.same("3: columnCount()", desk.columnCount(), column + 1);
        }
        Check.failsUnchanged("3: addColumn() with 10 columns", desk, IllegalStateException.class,
                desk::addColumn);
        Check.same("3: columnCount()", desk.columnCount(), 10);
        for (int column = 0; column < 10; column++) {
            Check.same("3: a new column is active", desk.setColumn(column, true), true);
        }
    }

    private static void addingKeepsTheOptimum() {
        AssignmentDesk desk = Desks.of(Desks.row(7));
        Check.same("2: total()", desk.total(), 7);
        desk.addRow();
        desk.addColumn();
        Check.same("2, 3: size() with a new row and column", desk.size(), 1);
        Check.same("2, 3: setCost of the new pair", desk.setCost(1, 1, -9), false);
        Check.same("2, 3: size() with the new pair", desk.size(), 2);
        Check.same("2, 3: total() with the new pair", desk.total(), -2);
    }

    private static void setRow() {
        AssignmentDesk desk = Desks.of(Desks.row(1, 5), Desks.row(2, 9));
        Check.same("4: total()", desk.total(), 7);
        Check.same("4: setRow(0, false)", desk.setRow(0, false), true);
        Check.same("4: setRow(0, false) again", desk.setRow(0, false), false);
        Check.same("4: size()", desk.size(), 1);
        Check.same("4: total()", desk.total(), 2);
        Check.same("4: columnOf(0)", desk.columnOf(0), -1);
        Check.same("4: a pair that is not usable stays allowed", desk.isAllowed(0, 0), true);
        Check.same("4: and keeps its cost", desk.cost(0, 1), 5);
        Check.same("4: setRow(0, true)", desk.setRow(0, true), false);
        Check.same("4: setRow(0, true) again", desk.setRow(0, true), true);
        Check.same("4: total() again", desk.total(), 7);
        for (int wrong : WRONG) {
            Check.failsUnchanged("4: setRow(" + wrong + ")", desk, BOUNDS,
                    () -> desk.setRow(wrong, false));
        }
    }

    private static void setColumn() {
        AssignmentDesk desk = Desks.of(Desks.row(1, 5), Desks.row(2, 9));
        Check.same("5: setColumn(0, false)", desk.setColumn(0, false), true);
        Check.same("5: setColumn(0, false) again", desk.setColumn(0, false), false);
        Check.same("5: size()", desk.size(), 1);
        Check.same("5: total()", desk.total(), 5);
        Check.same("5: rowOf(0)", desk.rowOf(0), -1);
        Check.same("5: a pair that is not usable stays allowed", desk.isAllowed(1, 0), true);
        Check.same("5: setColumn(0, true)", desk.setColumn(0, true), false);
        Check.same("5: setColumn(0, true) again", desk.setColumn(0, true), true);
        Check.same("5: total() again", desk.total(), 7);
        for (int wrong : WRONG) {
            Check.failsUnchanged("5: setColumn(" + wrong + ")", desk, BOUNDS,
                    () -> desk.setColumn(wrong, false));
        }
    }

    private static void setCost() {
        AssignmentDesk desk = Desks.empty(2, 2);
        Check.same("6: setCost(1, 0, 3)", desk.setCost(1, 0, 3), false);
        Check.same("6: setCost(1, 0, 4)", desk.setCost(1, 0, 4), true);
        Check.same("6: cost(1, 0)", desk.cost(1, 0), 4);
        Check.same("6: only this pair", desk.isAllowed(0, 1), false);
        Check.same("6: the least cost", desk.setCost(0, 1, -10000), false);
        Check.same("6: the greatest cost", desk.setCost(0, 0, 10000), false);
        Check.same("6: cost(0, 1)", desk.cost(0, 1), -10000);
        Check.same("6: cost(0, 0)", desk.cost(0, 0), 10000);
        Check.same("6: total()", desk.total(), -9996);
        int[] wrongCosts = {-10001, 10001, 20000, Integer.MIN_VALUE, Integer.MAX_VALUE};
        for (int wrong : wrongCosts) {
            Check.failsUnchanged("6: setCost(0, 0, " + wrong + ")", desk, ARGUMENT,
                    () -> desk.setCost(0, 0, wrong));
        }
        for (int wrong : WRONG) {
            Check.failsUnchanged("6: setCost(" + wrong + ", 0, 1)", desk, BOUNDS,
                    () -> desk.setCost(wrong, 0, 1));
            Check.failsUnchanged("6: setCost(0, " + wrong + ", 10001)", desk, BOUNDS,
                    () -> desk.setCost(0, wrong, 10001));
        }
        desk.setRow(0, false);
        Check.same("6: setCost in a row that is not active", desk.setCost(0, 0, 1), true);
        Check.same("6: does not make it active", desk.columnOf(0), -1);
    }

    private static void forbid() {
        AssignmentDesk desk = Desks.of(Desks.row(1, 5), Desks.row(2, 9));
        Check.same("7: forbid(0, 1)", desk.forbid(0, 1), true);
        Check.same("7: forbid(0, 1) again", desk.forbid(0, 1), false);
        Check.same("7: isAllowed(0, 1)", desk.isAllowed(0, 1), false);
        Check.same("7: isAllowed(1, 0)", desk.isAllowed(1, 0), true);
        Check.same("7: total()", desk.total(), 10);
        Check.same("7: setCost(0, 1, 0)", desk.setCost(0, 1, 0), false);
        Check.same("7: total() again", desk.total(), 2);
        for (int wrong : WRONG) {
            Check.failsUnchanged("7: forbid(" + wrong + ", 0)", desk, BOUNDS,
                    () -> desk.forbid(wrong, 0));
            Check.failsUnchanged("7: forbid(0, " + wrong + ")", desk, BOUNDS,
                    () -> desk.forbid(0, wrong));
        }
    }

    private static void addToRow() {
        AssignmentDesk desk = Desks.of(Desks.row(1, Desks.NO, 3), Desks.row(4, 5, Desks.NO));
        Check.same("8: addToRow(0, 10)", desk.addToRow(0, 10), 2);
        Check.same("8: cost(0, 0)", desk.cost(0, 0), 11);
        Check.same("8: cost(0, 2)", desk.cost(0, 2), 13);
        Check.same("8: cost(1, 0)", desk.cost(1, 0), 4);
        Check.same("8: isAllowed(0, 1)", desk.isAllowed(0, 1), false);
        Check.same("8: total()", desk.total(), 16);
        Check.same("8: addToRow(0, 0)", desk.addToRow(0, 0), 2);
        desk.setColumn(2, false);
        desk.setRow(0, false);
        Check.same("8: allowed is enough", desk.addToRow(0, -1), 2);
        Check.same("8: cost(0, 2)", desk.cost(0, 2), 12);
        Check.same("8: up to the greatest cost", desk.addToRow(0, 9988), 2);
        Check.same("8: cost(0, 2)", desk.cost(0, 2), 10000);
        int[] tooMuch = {1, -19999, 20000, Integer.MAX_VALUE, Integer.MIN_VALUE};
        for (int amount : tooMuch) {
            Check.failsUnchanged("8: addToRow(0, " + amount + ")", desk, ARITHMETIC,
                    () -> desk.addToRow(0, amount));
        }
        Check.same("8: down to the least cost", desk.addToRow(0, -19998), 2);
        Check.same("8: cost(0, 0)", desk.cost(0, 0), -10000);
        desk.forbid(0, 0);
        desk.forbid(0, 2);
        Check.same("8: no pairs", desk.addToRow(0, Integer.MAX_VALUE), 0);
        for (int wrong : WRONG) {
            Check.failsUnchanged("8: addToRow(" + wrong + ")", desk, BOUNDS,
                    () -> desk.addToRow(wrong, 100000));
        }
    }

    private static void scaleColumn() {
        AssignmentDesk desk = Desks.of(Desks.row(5, 1), Desks.row(7, 1), Desks.row(-5, 1),
                Desks.row(Desks.NO, 1), Desks.row(0, 1));
        desk.setRow(1, false);
        Check.same("9: scaleColumn(0, 0.5)", desk.scaleColumn(0, 0.5), 3);
        Check.same("9: 2.5 becomes even", desk.cost(0, 0), 2);
        Check.same("9: 3.5 becomes even", desk.cost(1, 0), 4);
        Check.same("9: -2.5 becomes even", desk.cost(2, 0), -2);
        Check.same("9: a forbidden pair", desk.isAllowed(3, 0), false);
        Check.same("9: 0 stays", desk.cost(4, 0), 0);
        Check.same("9: another column", desk.cost(0, 1), 1);
        Check.same("9: total()", desk.total(), -1);
        Check.same("9: scaleColumn(0, 1)", desk.scaleColumn(0, 1.0), 0);
        Check.same("9: scaleColumn(0, -1)", desk.scaleColumn(0, -1.0), 3);
        Check.same("9: cost(1, 0)", desk.cost(1, 0), -4);
        Check.same("9: scaleColumn(0, 0.3)", desk.scaleColumn(0, 0.3), 3);
        Check.same("9: -0.6", desk.cost(0, 0), -1);
        Check.same("9: -1.2", desk.cost(1, 0), -1);
        Check.same("9: 0.6", desk.cost(2, 0), 1);
        Check.same("9: scaleColumn(0, 0.5) to 0", desk.scaleColumn(0, 0.5), 3);
        Check.same("9: -0.5 becomes even", desk.cost(0, 0), 0);
        Check.same("9: 0.5 becomes even", desk.cost(2, 0), 0);
        Check.same("9: scaleColumn(0, 100)", desk.scaleColumn(0, 100.0), 0);
        Check.same("9: scaleColumn(1, -100)", desk.scaleColumn(1, -100.0), 5);
        Check.same("9: cost(3, 1)", desk.cost(3, 1), -100);
        Check.same("9: scaleColumn(1, 100)", desk.scaleColumn(1, 100.0), 5);
        Check.same("9: total()", desk.total(), -10000);
    }

    private static void scaleColumnRefuses() {
        AssignmentDesk desk = Desks.of(Desks.row(6667, 1), Desks.row(4, 1));
        double[] wrongFactors = {100.00000000000001, -100.00000000000001, Double.NaN,
            Double.POSITIVE_INFINITY, Double.NEGATIVE_INFINITY, Double.MAX_VALUE};
        for (double wrong : wrongFactors) {
            Check.failsUnchanged("9: scaleColumn(0, " + wrong + ")", desk, ARGUMENT,
                    () -> desk.scaleColumn(0, wrong));
        }
        double[] tooMuch = {1.5001, -1.5001, 2, -100, 100};
        for (double factor : tooMuch) {
            Check.failsUnchanged("9: scaleColumn(0, " + factor + ")", desk, ARITHMETIC,
                    () -> desk.scaleColumn(0, factor));
        }
        Check.same("9: cost(1, 0)", desk.cost(1, 0), 4);
        Check.same("9: 10000.5 becomes even", desk.scaleColumn(0, 1.5), 2);
        Check.same("9: cost(0, 0)", desk.cost(0, 0), 10000);
        Check.same("9: cost(1, 0)", desk.cost(1, 0), 6);
        for (int wrong : WRONG) {
            Check.failsUnchanged("9: scaleColumn(" + wrong + ")", desk, BOUNDS,
                    () -> desk.scaleColumn(wrong, Double.NaN));
        }
        AssignmentDesk bare = Desks.empty(1, 1);
        Check.same("9: no pairs", bare.scaleColumn(0, 100), 0);
        Check.fails("9: no pairs, wrong factor", ARGUMENT, () -> bare.scaleColumn(0, 101));
    }

    private static void counts() {
        AssignmentDesk desk = Desks.empty(3, 4);
        desk.setRow(0, false);
        desk.setColumn(0, false);
        Check.same("10: rowCount()", desk.rowCount(), 3);
        Check.same("11: columnCount()", desk.columnCount(), 4);
    }

    private static void pairs() {
        AssignmentDesk desk = Desks.of(Desks.row(Desks.NO, -6), Desks.row(0, Desks.NO));
        Check.same("12: isAllowed(0, 0)", desk.isAllowed(0, 0), false);
        Check.same("12: isAllowed(0, 1)", desk.isAllowed(0, 1), true);
        Check.same("12: isAllowed(1, 0)", desk.isAllowed(1, 0), true);
        Check.same("13: cost(0, 1)", desk.cost(0, 1), -6);
        Check.same("13: cost(1, 0)", desk.cost(1, 0), 0);
        Check.failsUnchanged("13: cost(0, 0)", desk, NoSuchElementException.class,
                () -> desk.cost(0, 0));
        for (int wrong : WRONG) {
            Check.failsUnchanged("12: isAllowed(" + wrong + ", 0)", desk, BOUNDS,
                    () -> desk.isAllowed(wrong, 0));
            Check.failsUnchanged("12: isAllowed(0, " + wrong + ")", desk, BOUNDS,
                    () -> desk.isAllowed(0, wrong));
            Check.failsUnchanged("13: cost(" + wrong + ", 0)", desk, BOUNDS,
                    () -> desk.cost(wrong, 0));
            Check.failsUnchanged("13: cost(0, " + wrong + ")", desk, BOUNDS,
                    () -> desk.cost(0, wrong));
        }
    }

    public static void main(String[] args) {
        newObject();
        addRow();
        addColumn();
        addingKeepsTheOptimum();
        setRow();
        setColumn();
        setCost();
        forbid();
        addToRow();
        scaleColumn();
        scaleColumnRefuses();
        counts();
        pairs();
        Check.end();
    }
}
