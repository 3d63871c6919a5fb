import java.util.NoSuchElementException;

/** The four examples of the document's description, call for call. */
public final class ExamplesTest {
    private static void cheapestAndSecond() {
        AssignmentDesk desk = new AssignmentDesk();
        Check.same("addRow()", desk.addRow(), 0);
        Check.same("addRow()", desk.addRow(), 1);
        Check.same("addColumn()", desk.addColumn(), 0);
        Check.same("addColumn()", desk.addColumn(), 1);
        Check.same("setCost(0, 0, 4)", desk.setCost(0, 0, 4), false);
        Check.same("setCost(0, 1, 1)", desk.setCost(0, 1, 1), false);
        Check.same("setCost(1, 0, 2)", desk.setCost(1, 0, 2), false);
        Check.same("setCost(1, 1, 0)", desk.setCost(1, 1, 0), false);
        Check.same("total()", desk.total(), 3);
        Check.same("columnOf(0)", desk.columnOf(0), 1);
        Check.same("columnOf(1)", desk.columnOf(1), 0);
        Check.same("regret(1, 1)", desk.regret(1, 1), 1);
        Check.same("loss(0, 1)", desk.loss(0, 1), 1);
        Check.same("greatestCost(0, 1)", desk.greatestCost(0, 1), 2);
        Check.same("rank(5)", desk.rank(5), 2);
        Check.same("rankedCost(1)", desk.rankedCost(1), 4);
    }

    private static void moreRowsThanColumns() {
        AssignmentDesk desk = new AssignmentDesk();
        Check.same("addRow()", desk.addRow(), 0);
        Check.same("addRow()", desk.addRow(), 1);
        Check.same("addRow()", desk.addRow(), 2);
        Check.same("addColumn()", desk.addColumn(), 0);
        Check.same("addColumn()", desk.addColumn(), 1);
        Check.same("setCost(0, 0, 5)", desk.setCost(0, 0, 5), false);
        Check.same("setCost(1, 0, 5)", desk.setCost(1, 0, 5), false);
        Check.same("setCost(2, 1, 1)", desk.setCost(2, 1, 1), false);
        Check.same("size()", desk.size(), 2);
        Check.same("total()", desk.total(), 6);
        Check.same("optimalCount()", desk.optimalCount(), 2);
        Check.same("columnOf(0)", desk.columnOf(0), 0);
        Check.same("columnOf(1)", desk.columnOf(1), -1);
        Check.same("rank(5)", desk.rank(5), 2);
        Check.same("rankedColumn(1, 0)", desk.rankedColumn(1, 0), -1);
    }

    private static void asManyPairsAsPossible() {
        AssignmentDesk desk = new AssignmentDesk();
        Check.same("addRow()", desk.addRow(), 0);
        Check.same("addRow()", desk.addRow(), 1);
        Check.same("addColumn()", desk.addColumn(), 0);
        Check.same("addColumn()", desk.addColumn(), 1);
        Check.same("setCost(0, 0, 3)", desk.setCost(0, 0, 3), false);
        Check.same("setCost(1, 0, 1)", desk.setCost(1, 0, 1), false);
        Check.same("size()", desk.size(), 1);
        Check.same("total()", desk.total(), 1);
        Check.same("setCost(0, 1, 8)", desk.setCost(0, 1, 8), false);
        Check.same("size()", desk.size(), 2);
        Check.same("total()", desk.total(), 9);
        Check.same("push()", desk.push(), 1);
        Check.same("setColumn(1, false)", desk.setColumn(1, false), true);
        Check.same("size()", desk.size(), 1);
        Check.same("pop()", desk.pop(), 0);
        Check.same("size()", desk.size(), 2);
    }

    private static void scaledRefusedForbidden() {
        AssignmentDesk desk = new AssignmentDesk();
        Check.same("addRow()", desk.addRow(), 0);
        Check.same("addColumn()", desk.addColumn(), 0);
        Check.same("setCost(0, 0, 5)", desk.setCost(0, 0, 5), false);
        Check.same("scaleColumn(0, 0.5)", desk.scaleColumn(0, 0.5), 1);
        Check.same("cost(0, 0)", desk.cost(0, 0), 2);
        Check.fails("addToRow(0, 10000)", ArithmeticException.class,
                () -> desk.addToRow(0, 10000));
        Check.same("forbid(0, 0)", desk.forbid(0, 0), true);
        Check.fails("cost(0, 0)", NoSuchElementException.class, () -> desk.cost(0, 0));
    }

    public static void main(String[] args) {
        cheapestAndSecond();
        moreRowsThanColumns();
        asManyPairsAsPossible();
        scaledRefusedForbidden();
        Check.end();
    }
}
