import java.util.ArrayList;
import java.util.List;
import java.util.NoSuchElementException;

/**
 * "A method that throws an exception changes nothing": each promise's refused calls, for each of
 * their reasons, after which every other answer is as it is on a desk where they were not called.
 */
public final class RefusalsTest {
    private static final Class<?> BOUNDS = IndexOutOfBoundsException.class;
    private static final Class<?> ARGUMENT = IllegalArgumentException.class;
    private static final Class<?> ARITHMETIC = ArithmeticException.class;
    private static final Class<?> ELEMENT = NoSuchElementException.class;
    private static final Class<?> STATE = IllegalStateException.class;
    private static final int NO = Desks.NO;

    private interface Maker {
        AssignmentDesk make();
    }

    private interface Act {
        Object on(AssignmentDesk desk);
    }

    private final Maker maker;
    private final List<List<String>> due = new ArrayList<>();

    private RefusalsTest(Maker maker) {
        this.maker = maker;
        for (int group = 0; group < Answers.GROUPS; group++) {
            due.add(Answers.of(maker.make(), group));
        }
    }

    private void refused(String call, Class<?> reason, Act act) {
        for (int group = 0; group < Answers.GROUPS; group++) {
            AssignmentDesk desk = maker.make();
            Check.fails(call, reason, () -> act.on(desk));
            sameAnswers(call, Answers.of(desk, group), due.get(group));
        }
    }

    private static void sameAnswers(String call, List<String> got, List<String> due) {
        Check.same("the number of answers behind " + call, got.size(), due.size());
        for (int k = 0; k < due.size() && k < got.size(); k++) {
            Check.same("what is asked behind " + call, got.get(k), due.get(k));
        }
    }

    // What the desks are like: each reason needs one to which it applies.

    private static AssignmentDesk nothing() {
        return new AssignmentDesk();
    }

    /** Something of everything: levels, a list, what is left out, forbidden, and added since. */
    private static AssignmentDesk mixed() {
        AssignmentDesk desk = Desks.of(Desks.row(10000, 3, NO, 8), Desks.row(2, -10000, 4, 5),
                Desks.row(7, NO, 1, 9999));
        desk.push();
        desk.setCost(2, 0, 6);
        desk.setRow(1, false);
        desk.push();
        desk.rank(4);
        desk.setColumn(3, false);
        desk.setRow(1, true);
        desk.addRow();
        desk.setCost(3, 0, -9999);
        desk.setCost(3, 1, 10000);
        desk.setRow(2, false);
        return desk;
    }

    /** The same, and all that can be found out is found out already. */
    private static AssignmentDesk asked() {
        AssignmentDesk desk = mixed();
        desk.total();
        desk.optimalCount();
        desk.loss(0, 0);
        desk.regret(0, 1);
        desk.digest();
        return desk;
    }

    /** Ten rows and columns, eight levels, a list of 30. */
    private static AssignmentDesk full() {
        AssignmentDesk desk = Desks.empty(10, 10);
        for (int k = 0; k < 100; k++) {
            desk.setCost(k / 10, k % 10, k * 37 % 50);
        }
        for (int level = 0; level < 8; level++) {
            desk.setCost(level, level, 10000 - level);
            desk.push();
        }
        desk.rank(30);
        desk.setCost(9, 9, -123);
        desk.setRow(3, false);
        desk.setColumn(5, false);
        return desk;
    }

    private static AssignmentDesk fullRows() {
        AssignmentDesk desk = Desks.empty(10, 2);
        desk.setCost(9, 1, 4);
        desk.push();
        desk.setRow(9, false);
        return desk;
    }

    private static AssignmentDesk fullColumns() {
        AssignmentDesk desk = Desks.empty(2, 10);
        desk.setCost(1, 9, 4);
        desk.push();
        desk.setColumn(9, false);
        return desk;
    }

    // Which row or column there is not, in each call that takes one.

    private void wrongRow(int row) {
        String name = "(" + row + ", ..)";
        refused("4: setRow" + name, BOUNDS, desk -> desk.setRow(row, false));
        refused("4: setRow(.., true)", BOUNDS, desk -> desk.setRow(row, true));
        refused("6: setCost" + name, BOUNDS, desk -> desk.setCost(row, 0, 77));
        refused("7: forbid" + name, BOUNDS, desk -> desk.forbid(row, 0));
        refused("8: addToRow" + name, BOUNDS, desk -> desk.addToRow(row, 1));
        refused("12: isAllowed" + name, BOUNDS, desk -> desk.isAllowed(row, 0));
        refused("13: cost" + name, BOUNDS, desk -> desk.cost(row, 0));
        refused("17: columnOf" + name, BOUNDS, desk -> desk.columnOf(row));
        refused("20: isPossible" + name, BOUNDS, desk -> desk.isPossible(row, 0));
        refused("21: isCertain" + name, BOUNDS, desk -> desk.isCertain(row, 0));
        refused("22: regret" + name, BOUNDS, desk -> desk.regret(row, 0));
        refused("23: loss" + name, BOUNDS, desk -> desk.loss(row, 0));
        refused("24: greatestCost" + name, BOUNDS, desk -> desk.greatestCost(row, 0));
        refused("27: rankedColumn(0, " + row + ")", BOUNDS, desk -> desk.rankedColumn(0, row));
    }

    private void wrongColumn(int column) {
        String name = "(0, " + column + ", ..)";
        refused("5: setColumn(false)" + name, BOUNDS, desk -> desk.setColumn(column, false));
        refused("5: setColumn(true)" + name, BOUNDS, desk -> desk.setColumn(column, true));
        refused("6: setCost" + name, BOUNDS, desk -> desk.setCost(0, column, 77));
        refused("7: forbid" + name, BOUNDS, desk -> desk.forbid(0, column));
        refused("9: scaleColumn" + name, BOUNDS, desk -> desk.scaleColumn(column, -1));
        refused("12: isAllowed" + name, BOUNDS, desk -> desk.isAllowed(0, column));
        refused("13: cost" + name, BOUNDS, desk -> desk.cost(0, column));
        refused("18: rowOf" + name, BOUNDS, desk -> desk.rowOf(column));
        refused("20: isPossible" + name, BOUNDS, desk -> desk.isPossible(0, column));
        refused("21: isCertain" + name, BOUNDS, desk -> desk.isCertain(0, column));
        refused("22: regret" + name, BOUNDS, desk -> desk.regret(0, column));
        refused("23: loss" + name, BOUNDS, desk -> desk.loss(0, column));
        refused("24: greatestCost" + name, BOUNDS, desk -> desk.greatestCost(0, column));
    }

    private void wrongRowsAndColumns() {
        AssignmentDesk desk = maker.make();
        wrongRow(-1);
        wrongRow(desk.rowCount());
        wrongColumn(-1);
        wrongColumn(desk.columnCount());
    }

    private void wrongLimitsAndIndexes(int listed) {
        refused("25: rank(0)", ARGUMENT, desk -> desk.rank(0));
        refused("25: rank(31)", ARGUMENT, desk -> desk.rank(31));
        refused("26: rankedCost(-1)", BOUNDS, desk -> desk.rankedCost(-1));
        refused("26: rankedCost behind", BOUNDS, desk -> desk.rankedCost(listed));
        refused("27: rankedColumn(-1, 0)", BOUNDS, desk -> desk.rankedColumn(-1, 0));
        refused("27: rankedColumn behind", BOUNDS, desk -> desk.rankedColumn(listed, 0));
    }

    private static void promises4To27ThereIsNoSuchRowOrColumn() {
        new RefusalsTest(RefusalsTest::nothing).wrongRowsAndColumns();
        new RefusalsTest(RefusalsTest::mixed).wrongRowsAndColumns();
        new RefusalsTest(RefusalsTest::asked).wrongRowsAndColumns();
        new RefusalsTest(RefusalsTest::full).wrongRowsAndColumns();
    }

    private static void promises25To27WrongLimitsAndIndexes() {
        new RefusalsTest(RefusalsTest::nothing).wrongLimitsAndIndexes(0);
        new RefusalsTest(RefusalsTest::mixed).wrongLimitsAndIndexes(4);
        new RefusalsTest(RefusalsTest::asked).wrongLimitsAndIndexes(4);
        new RefusalsTest(RefusalsTest::full).wrongLimitsAndIndexes(30);
    }

    private static void promise2ThereAre10Rows() {
        new RefusalsTest(RefusalsTest::full).refused("2: addRow()", STATE, AssignmentDesk::addRow);
        new RefusalsTest(RefusalsTest::fullRows).refused("2: addRow()", STATE,
                AssignmentDesk::addRow);
    }

    private static void promise3ThereAre10Columns() {
        new RefusalsTest(RefusalsTest::full).refused("3: addColumn()", STATE,
                AssignmentDesk::addColumn);
        new RefusalsTest(RefusalsTest::fullColumns).refused("3: addColumn()", STATE,
                AssignmentDesk::addColumn);
    }

    private static void promise6TheCostIsNotFromMinus10000To10000() {
        for (Maker maker : new Maker[] {RefusalsTest::mixed, RefusalsTest::asked}) {
            RefusalsTest test = new RefusalsTest(maker);
            for (int cost : new int[] {-10001, 10001}) {
                String name = "6: setCost of " + cost;
                test.refused(name + " where it is allowed", ARGUMENT,
                        desk -> desk.setCost(0, 1, cost));
                test.refused(name + " where it is forbidden", ARGUMENT,
                        desk -> desk.setCost(0, 2, cost));
                test.refused(name + " where the row is left out", ARGUMENT,
                        desk -> desk.setCost(2, 0, cost));
            }
        }
    }

    /** In row 0 the first of the costs refuses, in row 3 the last one does. */
    private static void promise8ASumIsNotFromMinus10000To10000() {
        for (Maker maker : new Maker[] {RefusalsTest::mixed, RefusalsTest::asked}) {
            RefusalsTest test = new RefusalsTest(maker);
            test.refused("8: addToRow(0, 1)", ARITHMETIC, desk -> desk.addToRow(0, 1));
            test.refused("8: addToRow(0, -10004)", ARITHMETIC, desk -> desk.addToRow(0, -10004));
            test.refused("8: addToRow(1, -1)", ARITHMETIC, desk -> desk.addToRow(1, -1));
            test.refused("8: addToRow(2, 2)", ARITHMETIC, desk -> desk.addToRow(2, 2));
            test.refused("8: addToRow(3, 1)", ARITHMETIC, desk -> desk.addToRow(3, 1));
            test.refused("8: addToRow(3, -2)", ARITHMETIC, desk -> desk.addToRow(3, -2));
            test.refused("8: addToRow(0, MAX_VALUE)", ARITHMETIC,
                    desk -> desk.addToRow(0, Integer.MAX_VALUE));
            test.refused("8: addToRow(0, MIN_VALUE)", ARITHMETIC,
                    desk -> desk.addToRow(0, Integer.MIN_VALUE));
        }
    }

    private static void promise9TheFactorIsNotFromMinus100To100() {
        double[] factors = {Math.nextUp(100.0), Math.nextDown(-100.0), Double.NaN,
            Double.NEGATIVE_INFINITY};
        for (Maker maker : new Maker[] {RefusalsTest::mixed, RefusalsTest::asked}) {
            RefusalsTest test = new RefusalsTest(maker);
            for (double factor : factors) {
                test.refused("9: scaleColumn(0, " + factor + ")", ARGUMENT,
                        desk -> desk.scaleColumn(0, factor));
                test.refused("9: scaleColumn(2, " + factor + ")", ARGUMENT,
                        desk -> desk.scaleColumn(2, factor));
            }
        }
    }

    /** In column 0 the first of the costs refuses, in columns 1 and 3 a later one does. */
    private static void promise9AProductIsNotFromMinus10000To10000() {
        for (Maker maker : new Maker[] {RefusalsTest::mixed, RefusalsTest::asked}) {
            RefusalsTest test = new RefusalsTest(maker);
            test.refused("9: scaleColumn(0, 1.0001)", ARITHMETIC,
                    desk -> desk.scaleColumn(0, 1.0001));
            test.refused("9: scaleColumn(0, -1.0001)", ARITHMETIC,
                    desk -> desk.scaleColumn(0, -1.0001));
            test.refused("9: scaleColumn(1, 1.5)", ARITHMETIC, desk -> desk.scaleColumn(1, 1.5));
            test.refused("9: scaleColumn(3, 2)", ARITHMETIC, desk -> desk.scaleColumn(3, 2));
            test.refused("9: scaleColumn(3, -100)", ARITHMETIC, desk -> desk.scaleColumn(3, -100));
        }
    }

    private static void promise13ThePairIsForbidden() {
        for (Maker maker : new Maker[] {RefusalsTest::mixed, RefusalsTest::asked}) {
            RefusalsTest test = new RefusalsTest(maker);
            test.refused("13: cost(0, 2)", ELEMENT, desk -> desk.cost(0, 2));
            test.refused("13: cost(3, 3)", ELEMENT, desk -> desk.cost(3, 3));
        }
    }

    private static void promises22And24ThePairIsNotUsable() {
        int[][] pairs = {{0, 2}, {2, 0}, {1, 3}, {3, 3}};
        for (Maker maker : new Maker[] {RefusalsTest::mixed, RefusalsTest::asked}) {
            RefusalsTest test = new RefusalsTest(maker);
            for (int[] pair : pairs) {
                String name = "(" + pair[0] + ", " + pair[1] + ")";
                test.refused("22: regret" + name, ELEMENT,
                        desk -> desk.regret(pair[0], pair[1]));
                test.refused("24: greatestCost" + name, ELEMENT,
                        desk -> desk.greatestCost(pair[0], pair[1]));
            }
        }
    }

    private static void promise28ThereAre8Levels() {
        new RefusalsTest(RefusalsTest::full).refused("28: push()", STATE, AssignmentDesk::push);
    }

    private static AssignmentDesk withoutLevels() {
        AssignmentDesk desk = mixed();
        desk.pop();
        desk.pop();
        return desk;
    }

    private static void promise29ThereIsNoLevel() {
        new RefusalsTest(RefusalsTest::nothing).refused("29: pop()", STATE, AssignmentDesk::pop);
        new RefusalsTest(RefusalsTest::withoutLevels).refused("29: pop()", STATE,
                AssignmentDesk::pop);
    }

    public static void main(String[] args) {
        Check.runAll(RefusalsTest.class);
    }
}
