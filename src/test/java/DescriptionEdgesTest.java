import java.util.NoSuchElementException;

/** The sentences of "Description" that hold for all promises, at their edges. */
public final class DescriptionEdgesTest {
    private static final Class<?> BOUNDS = IndexOutOfBoundsException.class;
    private static final Class<?> ARGUMENT = IllegalArgumentException.class;
    private static final Class<?> ELEMENT = NoSuchElementException.class;
    private static final Class<?> STATE = IllegalStateException.class;
    private static final int NO = Desks.NO;

    private static void sameKept(AssignmentDesk desk, int... due) {
        desk.rank(1);
        for (int row = 0; row < due.length; row++) {
            Check.same("columnOf(" + row + ")", desk.columnOf(row), due[row]);
            Check.same("rankedColumn(0, " + row + ")", desk.rankedColumn(0, row), due[row]);
        }
        for (int column = 0; column < desk.columnCount(); column++) {
            int rowDue = -1;
            for (int row = 0; row < due.length; row++) {
                rowDue = due[row] == column ? row : rowDue;
            }
            Check.same("rowOf(" + column + ")", desk.rowOf(column), rowDue);
        }
    }

    // "Rows are numbered from 0 in the order of their creation, and so are columns"

    private static void descriptionRowsAndColumnsAreNumberedApart() {
        AssignmentDesk desk = new AssignmentDesk();
        for (int k = 0; k < 10; k++) {
            Check.same("addRow()", desk.addRow(), k);
            Check.same("addColumn()", desk.addColumn(), k);
        }
    }

    // "there are at most 10 of each"

    private static void descriptionTenOfEachAtOnce() {
        AssignmentDesk desk = Desks.empty(10, 10);
        Check.fails("addRow()", STATE, desk::addRow);
        Check.fails("addColumn()", STATE, desk::addColumn);
        Check.same("rowCount()", desk.rowCount(), 10);
        Check.same("columnCount()", desk.columnCount(), 10);
    }

    // "at first it is forbidden": also a pair of a row and a column that came much later

    private static void descriptionEachPairIsForbiddenAtFirst() {
        AssignmentDesk desk = new AssignmentDesk();
        for (int k = 0; k < 10; k++) {
            desk.addRow();
            desk.addColumn();
            for (int other = 0; other <= k; other++) {
                Check.same("isAllowed(k, other)", desk.isAllowed(k, other), false);
                Check.same("isAllowed(other, k)", desk.isAllowed(other, k), false);
            }
            desk.setCost(k, k, 1);
        }
    }

    // "A pair is usable if it is allowed and its row and its column are active."

    private static void descriptionUsableNeedsAllThree() {
        for (int kind = 0; kind < 8; kind++) {
            boolean isAllowed = (kind & 1) != 0;
            boolean isRowActive = (kind & 2) != 0;
            boolean isColumnActive = (kind & 4) != 0;
            AssignmentDesk desk = Desks.of(Desks.row(5));
            if (!isAllowed) {
                desk.forbid(0, 0);
            }
            desk.setRow(0, isRowActive);
            desk.setColumn(0, isColumnActive);
            boolean isUsable = kind == 7;
            Check.same("size() of " + kind, desk.size(), isUsable ? 1 : 0);
            Check.same("regret(0, 0) of " + kind, Check.answerOf(() -> desk.regret(0, 0)),
                    isUsable ? 0 : "throws " + ELEMENT.getName());
            Check.same("greatestCost(0, 0) of " + kind,
                    Check.answerOf(() -> desk.greatestCost(0, 0)),
                    isUsable ? 10000 : "throws " + ELEMENT.getName());
        }
    }

    // "If there are no usable pairs, the empty assignment is the only one"

    private static void descriptionTheEmptyAssignment() {
        AssignmentDesk desk = Desks.even(2, 4);
        desk.setColumn(0, false);
        desk.setColumn(1, false);
        Check.same("size()", desk.size(), 0);
        Check.same("total()", desk.total(), 0);
        Check.same("optimalCount()", desk.optimalCount(), 1);
        Check.same("rank(30)", desk.rank(30), 1);
        Check.same("rankedCost(0)", desk.rankedCost(0), 0);
        sameKept(desk, -1, -1);
    }

    // "An assignment with this size is called full": a pair of cost 0 or less does not come free

    private static void descriptionPairsThatCostNothingAreTaken() {
        sameKept(Desks.of(Desks.row(0, 0), Desks.row(0, 0)), 0, 1);
        Check.same("size()", Desks.even(10, 0).size(), 10);
        Check.same("total()", Desks.even(10, 0).total(), 0);
    }

    // "the one with the lower cost comes first": before any order of columns

    private static void descriptionTheLowerCostComesFirst() {
        AssignmentDesk desk = Desks.of(Desks.row(-9999, -10000), Desks.row(-10000, -10000));
        sameKept(desk, 1, 0);
        desk.rank(2);
        Check.same("rankedCost(1)", desk.rankedCost(1), -19999);
        AssignmentDesk dear = Desks.of(Desks.row(10000, 9999));
        sameKept(dear, 1);
    }

    // "the one in which r has the smaller column comes first"

    private static void descriptionTheSmallestRowDecides() {
        AssignmentDesk desk = Desks.of(Desks.row(1, 1, NO), Desks.row(1, 1, 1), Desks.row(1, 1, 1));
        sameKept(desk, 0, 1, 2);
        desk.forbid(1, 1);
        sameKept(desk, 0, 2, 1);
        desk.forbid(0, 0);
        sameKept(desk, 1, 0, 2);
    }

    /** Row 1 would have the smaller column in the other one, but row 0 decides. */
    private static void descriptionLaterRowsDoNotDecide() {
        AssignmentDesk desk = Desks.of(Desks.row(5, 5, NO), Desks.row(5, NO, 5),
                Desks.row(NO, 5, 5));
        Check.same("optimalCount()", desk.optimalCount(), 2);
        sameKept(desk, 0, 2, 1);
        desk.rank(2);
        Check.same("rankedColumn(1, 0)", desk.rankedColumn(1, 0), 1);
        Check.same("rankedColumn(1, 1)", desk.rankedColumn(1, 1), 0);
        Check.same("rankedColumn(1, 2)", desk.rankedColumn(1, 2), 2);
    }

    private static void descriptionTheLastRowDecidesIfAllOthersAgree() {
        AssignmentDesk desk = Desks.empty(10, 10);
        for (int row = 0; row < 8; row++) {
            desk.setCost(row, row, 3);
        }
        desk.setCost(9, 8, 2);
        desk.setCost(9, 9, 2);
        sameKept(desk, 0, 1, 2, 3, 4, 5, 6, 7, -1, 8);
        desk.rank(2);
        Check.same("rankedColumn(1, 8)", desk.rankedColumn(1, 8), -1);
        Check.same("rankedColumn(1, 9)", desk.rankedColumn(1, 9), 9);
    }

    // "or a column in only one of them .. counts as if it had a column behind all others"

    private static void descriptionNoColumnIsBehindTheLastColumn() {
        AssignmentDesk desk = Desks.empty(2, 10);
        desk.setCost(0, 9, 4);
        desk.setCost(1, 9, 4);
        sameKept(desk, 9, -1);
        Check.same("rank(30)", desk.rank(30), 2);
        Check.same("rankedColumn(1, 0)", desk.rankedColumn(1, 0), -1);
        Check.same("rankedColumn(1, 1)", desk.rankedColumn(1, 1), 9);
    }

    private static void descriptionNoColumnIsBehindAlsoInTheLastRow() {
        AssignmentDesk desk = Desks.of(Desks.row(4, 4), Desks.row(4, NO), Desks.row(NO, 4));
        Check.same("rank(30)", desk.rank(30), 3);
        sameKept(desk, 0, -1, 1);
        desk.rank(30);
        int[][] due = {{0, -1, 1}, {1, 0, -1}, {-1, 0, 1}};
        for (int index = 0; index < 3; index++) {
            for (int row = 0; row < 3; row++) {
                Check.same("rankedColumn(" + index + ", " + row + ")",
                        desk.rankedColumn(index, row), due[index][row]);
            }
        }
    }

    private static void descriptionColumnsLeftOutMakeNoOrder() {
        AssignmentDesk desk = Desks.even(3, 2);
        desk.setColumn(0, false);
        sameKept(desk, 1, 2, -1);
        desk.setRow(0, false);
        sameKept(desk, -1, 1, 2);
    }

    // "The first optimal assignment in this order is .. kept": no matter how it came about

    private static void descriptionWhatIsKeptDependsOnTheTableAlone() {
        AssignmentDesk desk = Desks.even(3, 2);
        desk.setCost(0, 2, 1);
        sameKept(desk, 2, 0, 1);
        desk.setCost(0, 2, 2);
        sameKept(desk, 0, 1, 2);
        desk.push();
        desk.setCost(2, 0, -5);
        sameKept(desk, 1, 2, 0);
        desk.pop();
        sameKept(desk, 0, 1, 2);
    }

    // "pop restores what the latest push that has not been undone by a pop has stored"

    private static void descriptionPopUndoesTheLatestPush() {
        AssignmentDesk desk = Desks.of(Desks.row(1));
        for (int level = 0; level < 8; level++) {
            desk.setCost(0, 0, level * 10);
            desk.push();
        }
        for (int level = 7; level >= 4; level--) {
            desk.setCost(0, 0, -1);
            desk.pop();
            Check.same("cost(0, 0)", desk.cost(0, 0), level * 10);
        }
        desk.setCost(0, 0, 500);
        desk.push();
        desk.forbid(0, 0);
        desk.pop();
        Check.same("cost(0, 0) of the new one", desk.cost(0, 0), 500);
        desk.pop();
        Check.same("cost(0, 0) below it", desk.cost(0, 0), 30);
    }

    // "There are at most 8 levels."

    private static void descriptionEightLevels() {
        AssignmentDesk desk = new AssignmentDesk();
        for (int level = 1; level <= 8; level++) {
            Check.same("push()", desk.push(), level);
        }
        Check.fails("push()", STATE, desk::push);
        Check.same("pop()", desk.pop(), 7);
    }

    // "If several exceptions apply, the one that is named first is thrown."

    private static void descriptionTheFirstReasonIsTold() {
        AssignmentDesk desk = Desks.even(1, 10000);
        Check.fails("setCost: row", BOUNDS, () -> desk.setCost(1, 0, -10001));
        Check.fails("setCost: column", BOUNDS, () -> desk.setCost(0, 1, 10001));
        Check.fails("setCost: cost", ARGUMENT, () -> desk.setCost(0, 0, 10001));
        Check.fails("addToRow: row", BOUNDS, () -> desk.addToRow(1, 1));
        Check.fails("scaleColumn: column", BOUNDS, () -> desk.scaleColumn(1, 101));
        Check.fails("scaleColumn: factor", ARGUMENT, () -> desk.scaleColumn(0, 101));
        Check.fails("scaleColumn: NaN", ARGUMENT, () -> desk.scaleColumn(0, Double.NaN));
        Check.fails("scaleColumn: product", ArithmeticException.class,
                () -> desk.scaleColumn(0, 2));
        desk.forbid(0, 0);
        Check.fails("cost: row", BOUNDS, () -> desk.cost(-1, 0));
        Check.fails("cost: column", BOUNDS, () -> desk.cost(0, -1));
        Check.fails("regret: row", BOUNDS, () -> desk.regret(1, 0));
        Check.fails("regret: column", BOUNDS, () -> desk.regret(0, 1));
        Check.fails("greatestCost: row", BOUNDS, () -> desk.greatestCost(1, 0));
        Check.fails("greatestCost: column", BOUNDS, () -> desk.greatestCost(0, 1));
    }

    // "An object is used for at most 512 calls after it has been made"

    private static void descriptionThe512thCall() {
        AssignmentDesk desk = Desks.even(10, 7);
        for (int call = 120; call < 510; call += 3) {
            int cost = call % 2 == 0 ? 6 : 7;
            desk.setCost(0, 0, cost);
            Check.same("total()", desk.total(), 63 + cost);
            Check.same("rank(30)", desk.rank(30), 30);
        }
        Check.same("digest()", desk.digest(), Desks.even(10, 7).digest());
        Check.same("rankedCost(29)", desk.rankedCost(29), 70);
    }

    public static void main(String[] args) {
        Check.runAll(DescriptionEdgesTest.class);
    }
}
