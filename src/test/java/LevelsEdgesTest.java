import java.math.BigInteger;
import java.util.ArrayList;
import java.util.List;

/** Promises 28 to 30 at their edges: a test of its own for each sentence that names one. */
public final class LevelsEdgesTest {
    private static final Class<?> STATE = IllegalStateException.class;
    private static final int NO = Desks.NO;

    // Promise 28: push

    private static void promise28From1To8Levels() {
        AssignmentDesk desk = new AssignmentDesk();
        for (int level = 1; level <= 8; level++) {
            Check.same("push()", desk.push(), level);
        }
    }

    private static void promise28TheNinthLevelIsRefused() {
        AssignmentDesk desk = Desks.of(Desks.row(0));
        for (int level = 1; level <= 8; level++) {
            desk.setCost(0, 0, level);
            desk.push();
        }
        desk.setCost(0, 0, 9);
        Check.fails("push()", STATE, desk::push);
        Check.fails("push() again", STATE, desk::push);
        Check.same("cost(0, 0)", desk.cost(0, 0), 9);
        for (int level = 8; level >= 1; level--) {
            Check.same("pop()", desk.pop(), level - 1);
            Check.same("cost(0, 0)", desk.cost(0, 0), level);
        }
    }

    private static void promise28APopMakesRoom() {
        AssignmentDesk desk = new AssignmentDesk();
        for (int level = 1; level <= 8; level++) {
            desk.push();
        }
        Check.fails("push()", STATE, desk::push);
        Check.same("pop()", desk.pop(), 7);
        Check.same("push()", desk.push(), 8);
        Check.fails("push() then", STATE, desk::push);
    }

    private static void promise28MoreThan8PushesOneAfterAnother() {
        AssignmentDesk desk = Desks.of(Desks.row(0));
        for (int round = 0; round < 30; round++) {
            desk.setCost(0, 0, round);
            Check.same("push()", desk.push(), 1);
            desk.setCost(0, 0, -1);
            Check.same("pop()", desk.pop(), 0);
            Check.same("cost(0, 0)", desk.cost(0, 0), round);
        }
    }

    private static void promise28OpeningALevelChangesNothingElse() {
        AssignmentDesk desk = Desks.of(Desks.row(1, NO), Desks.row(2, 9));
        desk.setRow(1, false);
        desk.rank(2);
        desk.push();
        Check.same("total()", desk.total(), 1);
        Check.same("isAllowed(0, 1)", desk.isAllowed(0, 1), false);
        Check.same("cost(1, 1)", desk.cost(1, 1), 9);
        Check.same("rankedCost(0)", desk.rankedCost(0), 1);
        Check.same("setRow(1, true)", desk.setRow(1, true), false);
    }

    // Promise 29: pop

    private static void promise29From7To0Levels() {
        AssignmentDesk desk = new AssignmentDesk();
        for (int level = 1; level <= 8; level++) {
            desk.push();
        }
        for (int level = 7; level >= 0; level--) {
            Check.same("pop()", desk.pop(), level);
        }
    }

    private static void promise29NoLevel() {
        AssignmentDesk desk = Desks.of(Desks.row(4));
        Check.fails("pop() at first", STATE, desk::pop);
        desk.push();
        desk.pop();
        desk.setCost(0, 0, 5);
        Check.fails("pop() of what is closed", STATE, desk::pop);
        Check.fails("pop() again", STATE, desk::pop);
        Check.same("cost(0, 0)", desk.cost(0, 0), 5);
        Check.same("push()", desk.push(), 1);
    }

    private static void promise29TheLatestOneThatIsNotUndone() {
        AssignmentDesk desk = Desks.of(Desks.row(1));
        desk.push();
        desk.setCost(0, 0, 2);
        desk.push();
        desk.setCost(0, 0, 3);
        desk.pop();
        Check.same("cost(0, 0) of the second", desk.cost(0, 0), 2);
        desk.setCost(0, 0, 4);
        desk.push();
        desk.setCost(0, 0, 5);
        desk.pop();
        Check.same("cost(0, 0) of the third", desk.cost(0, 0), 4);
        desk.pop();
        Check.same("cost(0, 0) of the first", desk.cost(0, 0), 1);
    }

    private static void promise29AllCostsAndForbiddenPairsOfAFullTable() {
        AssignmentDesk desk = Desks.empty(10, 10);
        for (int k = 0; k < 100; k += 3) {
            desk.setCost(k / 10, k % 10, k * 200 - 10000);
        }
        desk.push();
        for (int row = 0; row < 10; row++) {
            for (int column = 0; column < 10; column++) {
                desk.setCost(row, column, 1);
            }
        }
        desk.forbid(0, 0);
        desk.forbid(9, 9);
        desk.pop();
        for (int k = 0; k < 100; k++) {
            boolean isAllowed = k % 3 == 0;
            Check.same("isAllowed", desk.isAllowed(k / 10, k % 10), isAllowed);
            if (isAllowed) {
                Check.same("cost", desk.cost(k / 10, k % 10), k * 200 - 10000);
            }
        }
    }

    private static void promise29EightLevelsOfAFullTable() {
        AssignmentDesk desk = Desks.even(10, 50);
        long[] before = new long[8];
        for (int level = 0; level < 8; level++) {
            desk.setCost(level, 9 - level, -100 * level);
            desk.forbid(9 - level, level + 1);
            desk.setRow(level, level % 3 != 0);
            desk.setColumn(9 - level, level % 3 != 1);
            before[level] = desk.digest();
            Check.same("push()", desk.push(), level + 1);
            desk.addToRow(9, 1);
        }
        for (int level = 7; level >= 0; level--) {
            Check.same("pop()", desk.pop(), level);
            Check.same("digest() with " + level + " levels", desk.digest(), before[level]);
        }
    }

    private static void promise29ManyChangesInOneLevel() {
        AssignmentDesk desk = Desks.even(10, -200);
        long before = desk.digest();
        desk.push();
        for (int change = 0; change < 370; change++) {
            desk.addToRow(change % 10, 1 + change % 3);
        }
        desk.scaleColumn(4, 0);
        Check.same("total() of the level", desk.total() > -2000, true);
        Check.same("pop()", desk.pop(), 0);
        Check.same("total()", desk.total(), -2000);
        desk.push();
        Check.same("pop() again", desk.pop(), 0);
        Check.same("digest()", desk.digest(), before);
    }

    private static void promise29WhichRowsAndColumnsAreActive() {
        AssignmentDesk desk = Desks.empty(10, 10);
        for (int k = 0; k < 10; k += 2) {
            desk.setRow(k, false);
            desk.setColumn(k + 1, false);
        }
        desk.push();
        for (int k = 0; k < 10; k++) {
            desk.setRow(k, k % 3 == 0);
            desk.setColumn(k, k % 3 == 0);
        }
        desk.pop();
        for (int k = 0; k < 10; k++) {
            Check.same("setRow(" + k + ", true)", desk.setRow(k, true), k % 2 == 1);
            Check.same("setColumn(" + k + ", true)", desk.setColumn(k, true), k % 2 == 0);
        }
    }

    private static void promise29RowsAddedSinceAreNotActiveAndForbidden() {
        AssignmentDesk desk = Desks.even(1, 3);
        desk.push();
        for (int row = 1; row < 10; row++) {
            desk.addRow();
            desk.setCost(row, 0, -row);
        }
        desk.pop();
        Check.same("rowCount()", desk.rowCount(), 10);
        Check.same("total()", desk.total(), 3);
        for (int row = 1; row < 10; row++) {
            Check.same("isAllowed(" + row + ", 0)", desk.isAllowed(row, 0), false);
            Check.same("columnOf(" + row + ")", desk.columnOf(row), -1);
            Check.same("setRow(" + row + ", true)", desk.setRow(row, true), false);
        }
    }

    private static void promise29ColumnsAddedSinceAreNotActiveAndForbidden() {
        AssignmentDesk desk = Desks.even(1, 3);
        desk.push();
        for (int column = 1; column < 10; column++) {
            desk.addColumn();
            desk.setCost(0, column, -column);
        }
        desk.pop();
        Check.same("columnCount()", desk.columnCount(), 10);
        Check.same("total()", desk.total(), 3);
        for (int column = 1; column < 10; column++) {
            Check.same("isAllowed(0, " + column + ")", desk.isAllowed(0, column), false);
            Check.same("rowOf(" + column + ")", desk.rowOf(column), -1);
            Check.same("setColumn(" + column + ", true)", desk.setColumn(column, true), false);
        }
    }

    private static void promise29WhatWasAddedSinceCanBeUsedAgain() {
        AssignmentDesk desk = new AssignmentDesk();
        desk.push();
        desk.addRow();
        desk.addColumn();
        desk.setCost(0, 0, 6);
        desk.pop();
        Check.same("setCost(0, 0, 7)", desk.setCost(0, 0, 7), false);
        Check.same("size() while left out", desk.size(), 0);
        desk.setRow(0, true);
        Check.same("size() with the column left out", desk.size(), 0);
        desk.setColumn(0, true);
        Check.same("size()", desk.size(), 1);
        Check.same("total()", desk.total(), 7);
        Check.same("addRow()", desk.addRow(), 1);
        Check.same("addColumn()", desk.addColumn(), 1);
    }

    private static void promise29AddedBetweenTwoPushes() {
        AssignmentDesk desk = Desks.even(1, 0);
        desk.push();
        desk.addRow();
        desk.addColumn();
        desk.setCost(1, 1, 5);
        desk.push();
        desk.addRow();
        desk.setCost(2, 0, -8);
        desk.setCost(1, 1, 9);
        desk.setRow(1, false);
        desk.pop();
        Check.same("row 1 is as at the second push", desk.total(), 5);
        Check.same("isAllowed(2, 0)", desk.isAllowed(2, 0), false);
        Check.same("setRow(2, true)", desk.setRow(2, true), false);
        desk.pop();
        Check.same("size() as at the first push", desk.size(), 1);
        Check.same("isAllowed(1, 1)", desk.isAllowed(1, 1), false);
        Check.same("setRow(1, true)", desk.setRow(1, true), false);
        Check.same("setColumn(1, true)", desk.setColumn(1, true), false);
        Check.same("setRow(2, true) then", desk.setRow(2, true), false);
        Check.same("rowCount()", desk.rowCount(), 3);
    }

    private static void promise29ALevelOfAnEmptyTable() {
        AssignmentDesk desk = new AssignmentDesk();
        desk.push();
        for (int k = 0; k < 10; k++) {
            desk.addRow();
            desk.addColumn();
            desk.setCost(k, k, 10000);
        }
        Check.same("total()", desk.total(), 100000);
        Check.same("pop()", desk.pop(), 0);
        Check.same("rowCount()", desk.rowCount(), 10);
        Check.same("columnCount()", desk.columnCount(), 10);
        Check.same("size()", desk.size(), 0);
        Check.same("total() then", desk.total(), 0);
        Check.same("optimalCount()", desk.optimalCount(), 1);
    }

    // Promise 30: digest

    /** The sum as the document tells it, over what other calls answer; wrapped at the end. */
    private static long digestOf(AssignmentDesk desk, int levels, String active) {
        List<Integer> numbers = new ArrayList<>(List.of(desk.rowCount(), desk.columnCount(),
                levels));
        for (char digit : active.toCharArray()) {
            numbers.add(digit - '0');
        }
        for (int row = 0; row < desk.rowCount(); row++) {
            for (int column = 0; column < desk.columnCount(); column++) {
                boolean isAllowed = desk.isAllowed(row, column);
                numbers.add(isAllowed ? desk.cost(row, column) : 20000);
            }
        }
        numbers.add(desk.size());
        numbers.add(desk.total());
        for (int row = 0; row < desk.rowCount(); row++) {
            numbers.add(desk.columnOf(row));
        }
        BigInteger sum = BigInteger.valueOf(41);
        for (int number : numbers) {
            sum = sum.multiply(BigInteger.valueOf(31)).add(BigInteger.valueOf(number));
        }
        return sum.longValue();
    }

    /** 41, then five times 0: no wrap-around yet. */
    private static void promise30OfNothing() {
        Check.same("digest()", new AssignmentDesk().digest(), 41L * 31 * 31 * 31 * 31 * 31);
    }

    private static void promise30OnlyRowsOrOnlyColumns() {
        AssignmentDesk rows = Desks.empty(1, 0);
        Check.same("one row", rows.digest(), 1128904712022L);
        AssignmentDesk columns = Desks.empty(0, 1);
        Check.same("one column", columns.digest(), digestOf(columns, 0, "1"));
        AssignmentDesk tenRows = Desks.empty(10, 0);
        Check.same("ten rows", tenRows.digest(), digestOf(tenRows, 0, "1111111111"));
        AssignmentDesk tenColumns = Desks.empty(0, 10);
        Check.same("ten columns", tenColumns.digest(), digestOf(tenColumns, 0, "1111111111"));
    }

    private static void promise30WrapsAround() {
        AssignmentDesk greatest = Desks.even(10, 10000);
        String active = "11111111111111111111";
        Check.same("the greatest costs", greatest.digest(), digestOf(greatest, 0, active));
        AssignmentDesk least = Desks.even(10, -10000);
        Check.same("the least costs", least.digest(), digestOf(least, 0, active));
        AssignmentDesk bare = Desks.empty(10, 10);
        Check.same("forbidden pairs", bare.digest(), digestOf(bare, 0, active));
    }

    private static void promise30TheNumberOfLevels() {
        AssignmentDesk desk = Desks.of(Desks.row(7, NO));
        for (int level = 1; level <= 8; level++) {
            desk.push();
            Check.same("digest()", desk.digest(), digestOf(desk, level, "111"));
        }
        Check.fails("push()", STATE, desk::push);
        Check.same("digest() after a refusal", desk.digest(), digestOf(desk, 8, "111"));
        desk.pop();
        Check.same("digest() after pop", desk.digest(), digestOf(desk, 7, "111"));
    }

    private static void promise30WhatIsActive() {
        AssignmentDesk desk = Desks.even(3, -4);
        desk.addColumn();
        desk.setRow(0, false);
        desk.setColumn(3, false);
        Check.same("first row, last column", desk.digest(), digestOf(desk, 0, "0111110"));
        desk.setRow(0, true);
        desk.setRow(2, false);
        desk.setColumn(3, true);
        desk.setColumn(0, false);
        Check.same("last row, first column", desk.digest(), digestOf(desk, 0, "1100111"));
    }

    private static void promise30PairsThatAreNotUsableCountWithTheirCosts() {
        AssignmentDesk desk = Desks.of(Desks.row(7, -10000), Desks.row(10000, NO));
        desk.setRow(0, false);
        desk.setRow(1, false);
        Check.same("digest()", desk.digest(), digestOf(desk, 0, "0011"));
    }

    private static void promise30NeitherTheListNorAskingChangesIt() {
        AssignmentDesk desk = Desks.even(4, 3);
        long before = desk.digest();
        Check.same("digest() again", desk.digest(), before);
        desk.rank(30);
        Check.same("digest() with a list", desk.digest(), before);
        desk.regret(0, 3);
        desk.loss(0, 0);
        desk.greatestCost(1, 1);
        desk.optimalCount();
        Check.same("digest() after questions", desk.digest(), before);
    }

    private static void promise30IsUpToDateAfterEachChange() {
        AssignmentDesk desk = Desks.even(2, 3);
        desk.digest();
        desk.setCost(0, 0, 1);
        Check.same("setCost", desk.digest(), digestOf(desk, 0, "1111"));
        desk.addToRow(1, 5);
        Check.same("addToRow", desk.digest(), digestOf(desk, 0, "1111"));
        desk.scaleColumn(1, -2);
        Check.same("scaleColumn", desk.digest(), digestOf(desk, 0, "1111"));
        desk.forbid(1, 1);
        Check.same("forbid", desk.digest(), digestOf(desk, 0, "1111"));
        desk.addRow();
        Check.same("addRow", desk.digest(), digestOf(desk, 0, "11111"));
        desk.addColumn();
        Check.same("addColumn", desk.digest(), digestOf(desk, 0, "111111"));
        desk.setRow(1, false);
        Check.same("setRow", desk.digest(), digestOf(desk, 0, "101111"));
        desk.setColumn(0, false);
        Check.same("setColumn", desk.digest(), digestOf(desk, 0, "101011"));
    }

    public static void main(String[] args) {
        Check.runAll(LevelsEdgesTest.class);
    }
}
