import java.util.NoSuchElementException;

/** Promises 14 to 24 at their edges: a test of its own for each sentence that names one. */
public final class OptimumEdgesTest {
    private static final Class<?> BOUNDS = IndexOutOfBoundsException.class;
    private static final Class<?> ELEMENT = NoSuchElementException.class;
    private static final int NO = Desks.NO;
    private static final int MOST = Integer.MAX_VALUE;
    private static final int LEAST = Integer.MIN_VALUE;

    /** Desks without a usable pair, each for another reason. */
    private static AssignmentDesk[] withoutUsablePairs() {
        AssignmentDesk rowsOut = Desks.even(2, 5);
        rowsOut.setRow(0, false);
        rowsOut.setRow(1, false);
        AssignmentDesk columnsOut = Desks.even(2, -5);
        columnsOut.setColumn(0, false);
        columnsOut.setColumn(1, false);
        AssignmentDesk crossed = Desks.of(Desks.row(5, 6), Desks.row(7, NO));
        crossed.setRow(0, false);
        crossed.setColumn(0, false);
        AssignmentDesk forbidden = Desks.even(1, 5);
        forbidden.forbid(0, 0);
        return new AssignmentDesk[] {new AssignmentDesk(), Desks.empty(10, 0), Desks.empty(0, 10),
            Desks.empty(10, 10), rowsOut, columnsOut, crossed, forbidden};
    }

    /** The cheapest pairs are on the diagonal, all others cost 20000 more. */
    private static AssignmentDesk diagonal() {
        AssignmentDesk desk = Desks.even(10, 10000);
        for (int row = 0; row < 10; row++) {
            desk.setCost(row, row, -10000);
        }
        return desk;
    }

    /** Only two full assignments: the diagonal for -100000, and its neighbours for 100000. */
    private static AssignmentDesk ring() {
        AssignmentDesk desk = Desks.empty(10, 10);
        for (int row = 0; row < 10; row++) {
            desk.setCost(row, row, -10000);
            desk.setCost(row, (row + 1) % 10, 10000);
        }
        return desk;
    }

    // Promise 14: size

    private static void promise14WithoutUsablePairs() {
        for (AssignmentDesk desk : withoutUsablePairs()) {
            Check.same("size()", desk.size(), 0);
        }
    }

    private static void promise14OnePair() {
        Check.same("size()", Desks.of(Desks.row(10000)).size(), 1);
        Check.same("size()", Desks.of(Desks.row(-10000)).size(), 1);
    }

    private static void promise14TenPairs() {
        Check.same("size() of equals", Desks.even(10, 10000).size(), 10);
        Check.same("size() of two", ring().size(), 10);
    }

    private static void promise14NoMoreThanRowsOrColumns() {
        AssignmentDesk tall = Desks.empty(10, 1);
        AssignmentDesk wide = Desks.empty(1, 10);
        for (int k = 0; k < 10; k++) {
            tall.setCost(k, 0, -k);
            wide.setCost(0, k, -k);
        }
        Check.same("size() of one column", tall.size(), 1);
        Check.same("size() of one row", wide.size(), 1);
    }

    private static void promise14NoRowAndNoColumnTwice() {
        AssignmentDesk desk = Desks.empty(10, 10);
        for (int k = 0; k < 10; k++) {
            desk.setCost(k, 4, -1);
        }
        Check.same("size() of a column", desk.size(), 1);
        for (int k = 0; k < 10; k++) {
            desk.setCost(4, k, -1);
        }
        Check.same("size() of a column and a row", desk.size(), 2);
    }

    private static void promise14OnePairMoreIsWorthAnyCost() {
        AssignmentDesk desk = Desks.empty(10, 10);
        for (int row = 0; row < 9; row++) {
            desk.setCost(row, row, -10000);
        }
        for (int row = 0; row < 10; row++) {
            desk.setCost(row, (row + 1) % 10, 10000);
        }
        Check.same("size()", desk.size(), 10);
        Check.same("total()", desk.total(), 100000);
        AssignmentDesk two = Desks.of(Desks.row(-10000, 10000), Desks.row(10000, NO));
        Check.same("size() of two", two.size(), 2);
    }

    // Promise 15: total

    private static void promise15WithoutUsablePairs() {
        for (AssignmentDesk desk : withoutUsablePairs()) {
            Check.same("total()", desk.total(), 0);
        }
    }

    private static void promise15TheLeastAndTheGreatestTotal() {
        Check.same("the greatest", Desks.even(10, 10000).total(), 100000);
        Check.same("the least", Desks.even(10, -10000).total(), -100000);
        Check.same("the diagonal", diagonal().total(), -100000);
    }

    private static void promise15TotalsFrom0To10Pairs() {
        for (int pairs = 0; pairs <= 10; pairs++) {
            AssignmentDesk desk = Desks.empty(10, 10);
            for (int k = 0; k < pairs; k++) {
                desk.setCost(k, 9 - k, 10000);
            }
            Check.same("total() of the greatest", desk.total(), 10000 * pairs);
            for (int k = 0; k < pairs; k++) {
                desk.setCost(k, 9 - k, -10000);
            }
            Check.same("total() of the least", desk.total(), -10000 * pairs);
            Check.same("size()", desk.size(), pairs);
        }
    }

    private static void promise15ASmallerAssignmentMayBeCheaper() {
        AssignmentDesk desk = Desks.of(Desks.row(-10000, 10000), Desks.row(10000, NO));
        Check.same("total()", desk.total(), 20000);
        AssignmentDesk one = Desks.of(Desks.row(10000));
        Check.same("total() above that of nothing", one.total(), 10000);
    }

    private static void promise15CostsMayAddUpTo0() {
        AssignmentDesk desk = Desks.of(Desks.row(-10000, NO), Desks.row(NO, 10000));
        Check.same("total()", desk.total(), 0);
        Check.same("size()", desk.size(), 2);
    }

    private static void promise15IsUpToDateAfterEachChange() {
        AssignmentDesk desk = Desks.of(Desks.row(4, 1), Desks.row(2, 0));
        Check.same("at first", desk.total(), 3);
        desk.push();
        Check.same("push", desk.total(), 3);
        desk.setCost(0, 0, 2);
        Check.same("setCost", desk.total(), 2);
        desk.addToRow(1, 5);
        Check.same("addToRow", desk.total(), 7);
        desk.scaleColumn(0, 3);
        Check.same("scaleColumn", desk.total(), 11);
        desk.forbid(1, 1);
        Check.same("forbid", desk.total(), 22);
        desk.setRow(1, false);
        Check.same("setRow", desk.total(), 1);
        desk.setColumn(1, false);
        Check.same("setColumn", desk.total(), 6);
        desk.addRow();
        Check.same("addRow", desk.total(), 6);
        desk.addColumn();
        Check.same("addColumn", desk.total(), 6);
        desk.setCost(2, 2, -9);
        Check.same("setCost of what was added", desk.total(), -3);
        desk.pop();
        Check.same("pop", desk.total(), 3);
    }

    // Promise 16: meanCost

    private static void promise16IsZeroIfTheSizeIs0() {
        for (AssignmentDesk desk : withoutUsablePairs()) {
            Check.same("meanCost()", desk.meanCost(), 0.0);
        }
    }

    private static void promise16IsZeroIfTheTotalIs0() {
        AssignmentDesk desk = Desks.of(Desks.row(-3, NO), Desks.row(NO, 3));
        Check.same("meanCost()", desk.meanCost(), 0.0);
        Check.same("meanCost() of one", Desks.of(Desks.row(0)).meanCost(), 0.0);
    }

    private static double meanOf(int pairs, int total) {
        AssignmentDesk desk = Desks.empty(pairs, pairs);
        for (int k = 0; k < pairs; k++) {
            desk.setCost(k, k, k == 0 ? total : 0);
        }
        return desk.meanCost();
    }

    private static void promise16TheNearestDouble() {
        Check.same("1 / 3", meanOf(3, 1), 0.3333333333333333);
        Check.same("2 / 3", meanOf(3, 2), 0.6666666666666666);
        Check.same("-2 / 3", meanOf(3, -2), -0.6666666666666666);
        Check.same("1 / 10", meanOf(10, 1), 0.1);
        Check.same("-7 / 9", meanOf(9, -7), -0.7777777777777778);
        Check.same("9999 / 7", meanOf(7, 9999), 1428.4285714285713);
        Check.same("5 / 6", meanOf(6, 5), 0.8333333333333334);
        Check.same("3 / 10", meanOf(10, 3), 0.3);
    }

    private static void promise16NotAnIntegerDivision() {
        Check.same("1 / 2", meanOf(2, 1), 0.5);
        Check.same("-1 / 2", meanOf(2, -1), -0.5);
        Check.same("9999 / 10", meanOf(10, 9999), 999.9);
    }

    private static void promise16TheLeastAndTheGreatest() {
        Check.same("the greatest", Desks.even(10, 10000).meanCost(), 10000.0);
        Check.same("the least", Desks.even(10, -10000).meanCost(), -10000.0);
    }

    // Promise 17: columnOf

    private static void promise17Minus1IfItHasNone() {
        AssignmentDesk desk = Desks.of(Desks.row(1, NO, 5), Desks.row(2, NO, NO),
                Desks.row(NO, NO, NO));
        Check.same("columnOf(0)", desk.columnOf(0), 2);
        Check.same("columnOf(1)", desk.columnOf(1), 0);
        Check.same("columnOf(2) without pairs", desk.columnOf(2), -1);
        desk.setRow(0, false);
        Check.same("columnOf(0) left out", desk.columnOf(0), -1);
        AssignmentDesk tall = Desks.of(Desks.row(9), Desks.row(8));
        Check.same("columnOf(0) that is dearer", tall.columnOf(0), -1);
        AssignmentDesk bare = Desks.empty(1, 0);
        Check.same("columnOf(0) without columns", bare.columnOf(0), -1);
    }

    private static void promise17FirstAndLastRow() {
        AssignmentDesk desk = Desks.empty(10, 10);
        for (int row = 0; row < 10; row++) {
            desk.setCost(row, 9 - row, 1);
        }
        Check.same("columnOf(0)", desk.columnOf(0), 9);
        Check.same("columnOf(9)", desk.columnOf(9), 0);
        Check.fails("columnOf(10)", BOUNDS, () -> desk.columnOf(10));
        Check.fails("columnOf(-1)", BOUNDS, () -> desk.columnOf(-1));
    }

    private static void promise17NoSuchRow() {
        AssignmentDesk desk = Desks.empty(2, 5);
        for (int wrong : new int[] {-1, 2, 3, 10, LEAST, MOST}) {
            Check.fails("columnOf(" + wrong + ")", BOUNDS, () -> desk.columnOf(wrong));
        }
    }

    // Promise 18: rowOf

    private static void promise18Minus1IfItHasNone() {
        AssignmentDesk desk = Desks.of(Desks.row(1, 2, NO), Desks.row(NO, NO, NO),
                Desks.row(5, NO, NO));
        Check.same("rowOf(0)", desk.rowOf(0), 2);
        Check.same("rowOf(1)", desk.rowOf(1), 0);
        Check.same("rowOf(2) without pairs", desk.rowOf(2), -1);
        desk.setColumn(0, false);
        Check.same("rowOf(0) left out", desk.rowOf(0), -1);
        AssignmentDesk wide = Desks.of(Desks.row(9, 8));
        Check.same("rowOf(0) that is dearer", wide.rowOf(0), -1);
        AssignmentDesk bare = Desks.empty(0, 1);
        Check.same("rowOf(0) without rows", bare.rowOf(0), -1);
    }

    private static void promise18FirstAndLastColumn() {
        AssignmentDesk desk = Desks.empty(10, 10);
        for (int row = 0; row < 10; row++) {
            desk.setCost(row, 9 - row, 1);
        }
        Check.same("rowOf(0)", desk.rowOf(0), 9);
        Check.same("rowOf(9)", desk.rowOf(9), 0);
        Check.fails("rowOf(10)", BOUNDS, () -> desk.rowOf(10));
        Check.fails("rowOf(-1)", BOUNDS, () -> desk.rowOf(-1));
    }

    private static void promise18NoSuchColumn() {
        AssignmentDesk desk = Desks.empty(5, 2);
        for (int wrong : new int[] {-1, 2, 3, 10, LEAST, MOST}) {
            Check.fails("rowOf(" + wrong + ")", BOUNDS, () -> desk.rowOf(wrong));
        }
    }

    // Promise 19: optimalCount

    private static void promise19WithoutUsablePairs() {
        for (AssignmentDesk desk : withoutUsablePairs()) {
            Check.same("optimalCount()", desk.optimalCount(), 1);
        }
    }

    private static void promise19TheMostThereCanBe() {
        Check.same("10 of 10", Desks.even(10, 4).optimalCount(), 3628800);
        AssignmentDesk nine = Desks.even(10, 4);
        nine.setColumn(3, false);
        Check.same("9 of 10 rows", nine.optimalCount(), 3628800);
        nine.setColumn(3, true);
        nine.setRow(0, false);
        Check.same("9 of 10 columns", nine.optimalCount(), 3628800);
    }

    private static void promise19OneOfSeveralFullOnes() {
        Check.same("the diagonal", diagonal().optimalCount(), 1);
        Check.same("the ring", ring().optimalCount(), 1);
    }

    private static void promise19ACostOf1More() {
        AssignmentDesk desk = Desks.even(2, 5);
        Check.same("two", desk.optimalCount(), 2);
        desk.setCost(0, 0, 6);
        Check.same("one", desk.optimalCount(), 1);
    }

    private static void promise19RowsAndColumnsLeftOverMakeWays() {
        AssignmentDesk desk = Desks.of(Desks.row(1, 1, 1, 1, 1));
        Check.same("one row of five", desk.optimalCount(), 5);
        AssignmentDesk tall = Desks.empty(10, 2);
        for (int row = 0; row < 10; row++) {
            tall.setCost(row, 0, 0);
            tall.setCost(row, 1, 0);
        }
        Check.same("two columns of ten rows", tall.optimalCount(), 90);
    }

    // Promise 20: isPossible

    private static void promise20APairThatIsNotUsable() {
        AssignmentDesk desk = Desks.of(Desks.row(1, NO), Desks.row(NO, NO));
        Check.same("forbidden", desk.isPossible(0, 1), false);
        Check.same("forbidden in a bare row", desk.isPossible(1, 1), false);
        Check.same("usable", desk.isPossible(0, 0), true);
        desk.setRow(0, false);
        Check.same("row left out", desk.isPossible(0, 0), false);
        desk.setRow(0, true);
        desk.setColumn(0, false);
        Check.same("column left out", desk.isPossible(0, 0), false);
    }

    private static void promise20ACostOf1More() {
        AssignmentDesk desk = Desks.of(Desks.row(5, 5, 6));
        Check.same("the least", desk.isPossible(0, 0), true);
        Check.same("as good", desk.isPossible(0, 1), true);
        Check.same("1 more", desk.isPossible(0, 2), false);
    }

    private static void promise20APairOfSmallerAssignmentsOnly() {
        AssignmentDesk desk = Desks.of(Desks.row(-10000, 10000), Desks.row(10000, NO));
        Check.same("isPossible(0, 0)", desk.isPossible(0, 0), false);
        Check.same("isPossible(0, 1)", desk.isPossible(0, 1), true);
    }

    private static void promise20APairThatIsNotInTheKeptOne() {
        AssignmentDesk desk = Desks.even(10, 3);
        Check.same("columnOf(9)", desk.columnOf(9), 9);
        Check.same("isPossible(9, 0)", desk.isPossible(9, 0), true);
        Check.same("isPossible(0, 9)", desk.isPossible(0, 9), true);
    }

    private static void promise20NoSuchRowOrColumn() {
        AssignmentDesk desk = Desks.empty(2, 3);
        Check.fails("isPossible(2, 0)", BOUNDS, () -> desk.isPossible(2, 0));
        Check.fails("isPossible(0, 3)", BOUNDS, () -> desk.isPossible(0, 3));
        Check.fails("isPossible(-1, 0)", BOUNDS, () -> desk.isPossible(-1, 0));
        Check.fails("isPossible(1, -1)", BOUNDS, () -> desk.isPossible(1, -1));
        Check.fails("isPossible(MOST, LEAST)", BOUNDS, () -> desk.isPossible(MOST, LEAST));
        AssignmentDesk full = Desks.even(10, 1);
        Check.same("isPossible(9, 9)", full.isPossible(9, 9), true);
        Check.fails("isPossible(10, 9)", BOUNDS, () -> full.isPossible(10, 9));
        Check.fails("isPossible(9, 10)", BOUNDS, () -> full.isPossible(9, 10));
    }

    // Promise 21: isCertain

    private static void promise21TheEmptyAssignmentHasNoPair() {
        AssignmentDesk desk = Desks.empty(1, 1);
        Check.same("forbidden", desk.isCertain(0, 0), false);
        desk.setCost(0, 0, 1);
        Check.same("usable", desk.isCertain(0, 0), true);
        desk.setRow(0, false);
        Check.same("row left out", desk.isCertain(0, 0), false);
        desk.setRow(0, true);
        desk.setColumn(0, false);
        Check.same("column left out", desk.isCertain(0, 0), false);
    }

    private static void promise21ACostOf1Less() {
        AssignmentDesk desk = Desks.of(Desks.row(5, 5));
        Check.same("one of two", desk.isCertain(0, 0), false);
        desk.setCost(0, 0, 4);
        Check.same("1 less", desk.isCertain(0, 0), true);
        Check.same("1 more than the other", desk.isCertain(0, 1), false);
    }

    private static void promise21OtherFullAssignmentsNeedNotHaveIt() {
        AssignmentDesk desk = ring();
        Check.same("isCertain(3, 3)", desk.isCertain(3, 3), true);
        Check.same("isCertain(3, 4)", desk.isCertain(3, 4), false);
    }

    private static void promise21APairThatAllFullOnesHave() {
        AssignmentDesk desk = Desks.of(Desks.row(10000, NO), Desks.row(-10000, 10000));
        Check.same("isCertain(0, 0)", desk.isCertain(0, 0), true);
        Check.same("isCertain(1, 1)", desk.isCertain(1, 1), true);
        Check.same("isCertain(1, 0)", desk.isCertain(1, 0), false);
    }

    private static void promise21NoSuchRowOrColumn() {
        AssignmentDesk desk = Desks.empty(2, 3);
        Check.fails("isCertain(2, 0)", BOUNDS, () -> desk.isCertain(2, 0));
        Check.fails("isCertain(0, 3)", BOUNDS, () -> desk.isCertain(0, 3));
        Check.fails("isCertain(-1, 0)", BOUNDS, () -> desk.isCertain(-1, 0));
        Check.fails("isCertain(1, -1)", BOUNDS, () -> desk.isCertain(1, -1));
        Check.fails("isCertain(LEAST, MOST)", BOUNDS, () -> desk.isCertain(LEAST, MOST));
        AssignmentDesk full = diagonal();
        Check.same("isCertain(9, 9)", full.isCertain(9, 9), true);
        Check.fails("isCertain(10, 9)", BOUNDS, () -> full.isCertain(10, 9));
        Check.fails("isCertain(9, 10)", BOUNDS, () -> full.isCertain(9, 10));
    }

    // Promise 22: regret

    private static void promise22APairOfAnOptimalAssignment() {
        AssignmentDesk desk = Desks.of(Desks.row(5, 5, 6));
        Check.same("of the kept one", desk.regret(0, 0), 0);
        Check.same("of another one", desk.regret(0, 1), 0);
        Check.same("1 more", desk.regret(0, 2), 1);
    }

    private static void promise22TheGreatestRegret() {
        Check.same("regret(9, 0)", ring().regret(9, 0), 200000);
        Check.same("regret(0, 1)", ring().regret(0, 1), 200000);
    }

    private static void promise22Minus1IfThereIsNoFullOneWithIt() {
        AssignmentDesk desk = Desks.of(Desks.row(-10000, 10000), Desks.row(10000, NO));
        Check.same("regret(0, 0)", desk.regret(0, 0), -1);
        Check.same("regret(0, 1)", desk.regret(0, 1), 0);
        AssignmentDesk last = Desks.of(Desks.row(NO, 1), Desks.row(1, 0));
        Check.same("regret(1, 1)", last.regret(1, 1), -1);
    }

    private static void promise22RowsOrColumnsLeftOver() {
        AssignmentDesk tall = Desks.of(Desks.row(1), Desks.row(5));
        Check.same("the row left over", tall.regret(1, 0), 4);
        Check.same("the other row", tall.regret(0, 0), 0);
        AssignmentDesk wide = Desks.of(Desks.row(1, 5));
        Check.same("the column left over", wide.regret(0, 1), 4);
        AssignmentDesk ten = Desks.empty(10, 1);
        for (int row = 0; row < 10; row++) {
            ten.setCost(row, 0, row * row);
        }
        for (int row = 0; row < 10; row++) {
            Check.same("one column for ten rows", ten.regret(row, 0), row * row);
        }
    }

    private static void promise22APairThatIsNotUsable() {
        AssignmentDesk desk = Desks.even(2, 1);
        desk.forbid(0, 1);
        Check.fails("forbidden", ELEMENT, () -> desk.regret(0, 1));
        desk.setRow(1, false);
        Check.fails("row left out", ELEMENT, () -> desk.regret(1, 1));
        desk.setRow(1, true);
        desk.setColumn(0, false);
        Check.fails("column left out", ELEMENT, () -> desk.regret(1, 0));
        Check.same("usable", desk.regret(1, 1), 0);
    }

    private static void promise22NoSuchRowOrColumn() {
        AssignmentDesk desk = Desks.even(2, 3);
        desk.addColumn();
        Check.fails("regret(2, 0)", BOUNDS, () -> desk.regret(2, 0));
        Check.fails("regret(0, 3)", BOUNDS, () -> desk.regret(0, 3));
        Check.fails("regret(-1, 0)", BOUNDS, () -> desk.regret(-1, 0));
        Check.fails("regret(1, -1)", BOUNDS, () -> desk.regret(1, -1));
        Check.fails("regret(MOST, 0)", BOUNDS, () -> desk.regret(MOST, 0));
        Check.fails("regret(0, LEAST)", BOUNDS, () -> desk.regret(0, LEAST));
        AssignmentDesk full = diagonal();
        Check.same("regret(9, 9)", full.regret(9, 9), 0);
        Check.fails("regret(10, 9)", BOUNDS, () -> full.regret(10, 9));
        Check.fails("regret(9, 10)", BOUNDS, () -> full.regret(9, 10));
    }

    private static void promise22TheMissingPairIsToldFirst() {
        AssignmentDesk desk = Desks.empty(2, 2);
        desk.setRow(0, false);
        desk.setColumn(0, false);
        Check.fails("regret(0, 2)", BOUNDS, () -> desk.regret(0, 2));
        Check.fails("regret(2, 0)", BOUNDS, () -> desk.regret(2, 0));
        Check.fails("regret(0, 0)", ELEMENT, () -> desk.regret(0, 0));
    }

    // Promise 23: loss

    private static void promise23APairThatIsNotInTheKeptOne() {
        AssignmentDesk desk = Desks.of(Desks.row(5, 5, 6));
        Check.same("one of two", desk.loss(0, 0), 0);
        Check.same("the other", desk.loss(0, 1), 0);
        Check.same("1 more", desk.loss(0, 2), 0);
        desk.forbid(0, 1);
        Check.same("the only one", desk.loss(0, 0), 1);
    }

    private static void promise23TheGreatestLoss() {
        Check.same("loss(0, 0)", ring().loss(0, 0), 200000);
        Check.same("loss(9, 9)", ring().loss(9, 9), 200000);
    }

    private static void promise23Minus1IfAllFullOnesHaveIt() {
        AssignmentDesk desk = Desks.of(Desks.row(10000, NO), Desks.row(-10000, 10000));
        Check.same("loss(0, 0)", desk.loss(0, 0), -1);
        Check.same("loss(1, 1)", desk.loss(1, 1), -1);
        Check.same("loss(1, 0)", desk.loss(1, 0), 0);
        AssignmentDesk one = Desks.of(Desks.row(0));
        Check.same("loss(0, 0) of one", one.loss(0, 0), -1);
    }

    private static void promise23RowsOrColumnsLeftOver() {
        AssignmentDesk tall = Desks.of(Desks.row(1), Desks.row(5));
        Check.same("the row left over", tall.loss(1, 0), 0);
        Check.same("the other row", tall.loss(0, 0), 4);
        AssignmentDesk wide = Desks.of(Desks.row(1, 5));
        Check.same("the column left over", wide.loss(0, 1), 0);
        Check.same("the other column", wide.loss(0, 0), 4);
    }

    /** What one question finds out must not be taken for what another one asks. */
    private static void promises22To24AskedInTurn() {
        AssignmentDesk desk = Desks.of(Desks.row(1), Desks.row(5));
        for (int round = 0; round < 3; round++) {
            Check.same("regret(1, 0)", desk.regret(1, 0), 4);
            Check.same("loss(1, 0)", desk.loss(1, 0), 0);
            Check.same("greatestCost(1, 0)", desk.greatestCost(1, 0), 1);
            Check.same("regret(0, 0)", desk.regret(0, 0), 0);
            Check.same("loss(0, 0)", desk.loss(0, 0), 4);
            Check.same("greatestCost(0, 0)", desk.greatestCost(0, 0), 5);
            Check.same("optimalCount()", desk.optimalCount(), 1);
        }
    }

    private static void promise23APairThatIsNotUsableIsInNone() {
        AssignmentDesk desk = Desks.of(Desks.row(1, NO), Desks.row(NO, 2));
        Check.same("forbidden", desk.loss(0, 1), 0);
        desk.setRow(0, false);
        Check.same("row left out", desk.loss(0, 0), 0);
        desk.setColumn(1, false);
        Check.same("column left out", desk.loss(1, 1), 0);
        for (AssignmentDesk none : withoutUsablePairs()) {
            if (none.rowCount() > 0 && none.columnCount() > 0) {
                Check.same("of the empty assignment", none.loss(0, 0), 0);
            }
        }
    }

    private static void promise23NoSuchRowOrColumn() {
        AssignmentDesk desk = Desks.empty(2, 3);
        Check.fails("loss(2, 0)", BOUNDS, () -> desk.loss(2, 0));
        Check.fails("loss(0, 3)", BOUNDS, () -> desk.loss(0, 3));
        Check.fails("loss(-1, 0)", BOUNDS, () -> desk.loss(-1, 0));
        Check.fails("loss(1, -1)", BOUNDS, () -> desk.loss(1, -1));
        Check.fails("loss(LEAST, 0)", BOUNDS, () -> desk.loss(LEAST, 0));
        Check.fails("loss(0, MOST)", BOUNDS, () -> desk.loss(0, MOST));
        AssignmentDesk full = Desks.even(10, 1);
        Check.same("loss(9, 9)", full.loss(9, 9), 0);
        Check.fails("loss(10, 9)", BOUNDS, () -> full.loss(10, 9));
        Check.fails("loss(9, 10)", BOUNDS, () -> full.loss(9, 10));
    }

    // Promise 24: greatestCost

    /** With the answer as its cost the pair is possible; with 1 more it is not. */
    private static void sameGreatest(AssignmentDesk desk, int row, int column, int due) {
        Check.same("greatestCost", desk.greatestCost(row, column), due);
        if (due > -20000) {
            desk.setCost(row, column, due);
            Check.same("isPossible with " + due, desk.isPossible(row, column), true);
        }
        int more = due == -20000 ? -10000 : due + 1;
        if (more <= 10000) {
            desk.setCost(row, column, more);
            Check.same("isPossible with " + more, desk.isPossible(row, column), false);
        }
    }

    private static void promise24TheCostItHasMayBeTheGreatest() {
        sameGreatest(Desks.of(Desks.row(5, 5)), 0, 0, 5);
        sameGreatest(Desks.of(Desks.row(5, 5)), 0, 1, 5);
        sameGreatest(Desks.of(Desks.row(4, 5)), 0, 0, 5);
        sameGreatest(Desks.of(Desks.row(6, 5)), 0, 0, 5);
    }

    private static void promise24TheGreatestIs10000() {
        sameGreatest(Desks.of(Desks.row(3, 9999)), 0, 0, 9999);
        sameGreatest(Desks.of(Desks.row(3, 10000)), 0, 0, 10000);
        sameGreatest(Desks.of(Desks.row(10000, 10000)), 0, 1, 10000);
    }

    private static void promise24NoMoreThan10000() {
        AssignmentDesk desk = Desks.of(Desks.row(0, 10000), Desks.row(1, 0));
        Check.same("10001 would do", desk.greatestCost(0, 0), 10000);
        Check.same("190000 would do", ring().greatestCost(4, 4), 10000);
    }

    private static void promise24TheLeastIsMinus10000() {
        sameGreatest(Desks.of(Desks.row(3, -9999)), 0, 0, -9999);
        sameGreatest(Desks.of(Desks.row(3, -10000)), 0, 0, -10000);
        sameGreatest(Desks.of(Desks.row(-10000, -10000)), 0, 0, -10000);
    }

    private static void promise24Minus20000IfItWouldHaveToBeLess() {
        AssignmentDesk desk = Desks.of(Desks.row(0, -10000), Desks.row(-1, 0));
        sameGreatest(desk, 0, 0, -20000);
        sameGreatest(ring(), 4, 5, -20000);
    }

    private static void promise24Minus20000IfThereIsNoFullOneWithIt() {
        AssignmentDesk desk = Desks.of(Desks.row(-10000, 10000), Desks.row(10000, NO));
        sameGreatest(desk, 0, 0, -20000);
    }

    private static void promise24AllFullOnesHaveIt() {
        sameGreatest(Desks.of(Desks.row(-10000)), 0, 0, 10000);
        AssignmentDesk desk = Desks.of(Desks.row(-10000, 10000), Desks.row(10000, NO));
        sameGreatest(desk, 0, 1, 10000);
    }

    private static void promise24ItAloneHasAnotherCost() {
        AssignmentDesk desk = Desks.of(Desks.row(4, 1), Desks.row(2, 0));
        sameGreatest(desk, 0, 1, 2);
        AssignmentDesk again = Desks.of(Desks.row(4, 1), Desks.row(2, 0));
        again.greatestCost(0, 0);
        Check.same("cost(0, 0) stays", again.cost(0, 0), 4);
        Check.same("total() stays", again.total(), 3);
    }

    private static void promise24APairThatIsNotUsable() {
        AssignmentDesk desk = Desks.even(2, 1);
        desk.forbid(0, 1);
        Check.fails("forbidden", ELEMENT, () -> desk.greatestCost(0, 1));
        desk.setRow(1, false);
        Check.fails("row left out", ELEMENT, () -> desk.greatestCost(1, 1));
        desk.setRow(1, true);
        desk.setColumn(0, false);
        Check.fails("column left out", ELEMENT, () -> desk.greatestCost(1, 0));
        Check.same("usable", desk.greatestCost(1, 1), 10000);
    }

    private static void promise24NoSuchRowOrColumn() {
        AssignmentDesk desk = Desks.even(2, 3);
        desk.addColumn();
        Check.fails("greatestCost(2, 0)", BOUNDS, () -> desk.greatestCost(2, 0));
        Check.fails("greatestCost(0, 3)", BOUNDS, () -> desk.greatestCost(0, 3));
        Check.fails("greatestCost(-1, 0)", BOUNDS, () -> desk.greatestCost(-1, 0));
        Check.fails("greatestCost(1, -1)", BOUNDS, () -> desk.greatestCost(1, -1));
        Check.fails("greatestCost(MOST, 0)", BOUNDS, () -> desk.greatestCost(MOST, 0));
        Check.fails("greatestCost(0, LEAST)", BOUNDS, () -> desk.greatestCost(0, LEAST));
        AssignmentDesk full = diagonal();
        Check.same("greatestCost(9, 9)", full.greatestCost(9, 9), 10000);
        Check.fails("greatestCost(10, 9)", BOUNDS, () -> full.greatestCost(10, 9));
        Check.fails("greatestCost(9, 10)", BOUNDS, () -> full.greatestCost(9, 10));
    }

    private static void promise24TheMissingPairIsToldFirst() {
        AssignmentDesk desk = Desks.empty(2, 2);
        desk.setRow(0, false);
        desk.setColumn(0, false);
        Check.fails("greatestCost(0, 2)", BOUNDS, () -> desk.greatestCost(0, 2));
        Check.fails("greatestCost(2, 0)", BOUNDS, () -> desk.greatestCost(2, 0));
        Check.fails("greatestCost(0, 0)", ELEMENT, () -> desk.greatestCost(0, 0));
    }

    public static void main(String[] args) {
        Check.runAll(OptimumEdgesTest.class);
    }
}
