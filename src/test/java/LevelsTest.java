/** Promises 28 to 30: levels, and the digest. */
public final class LevelsTest {
    private static final Class<?> STATE = IllegalStateException.class;
    private static final int NO = Desks.NO;

    private static long digestOf(int... numbers) {
        long digest = 41;
        for (int number : numbers) {
            digest = digest * 31 + number;
        }
        return digest;
    }

    private static void pushAndPop() {
        AssignmentDesk desk = Desks.of(Desks.row(1, 5), Desks.row(2, NO));
        long before = desk.digest();
        Check.same("28: push()", desk.push(), 1);
        Check.same("28: push() changes no optimum", desk.total(), 7);
        desk.setCost(0, 0, -9);
        desk.setCost(1, 1, 4);
        desk.forbid(1, 0);
        desk.setRow(1, false);
        desk.setColumn(0, false);
        Check.same("28: total() in the level", desk.total(), 5);
        Check.same("29: pop()", desk.pop(), 0);
        Check.same("29: total()", desk.total(), 7);
        Check.same("29: cost(0, 0)", desk.cost(0, 0), 1);
        Check.same("29: isAllowed(1, 1)", desk.isAllowed(1, 1), false);
        Check.same("29: isAllowed(1, 0)", desk.isAllowed(1, 0), true);
        Check.same("29: digest()", desk.digest(), before);
        Check.same("29: row 1 is active", desk.setRow(1, true), true);
        Check.same("29: column 0 is active", desk.setColumn(0, true), true);
        Check.failsUnchanged("29: pop() without a level", desk, STATE, desk::pop);
    }

    private static void whatWasNotActiveIsNotActiveAgain() {
        AssignmentDesk desk = Desks.of(Desks.row(1, 5), Desks.row(2, NO));
        desk.setRow(0, false);
        desk.setColumn(1, false);
        desk.push();
        desk.setRow(0, true);
        desk.setColumn(1, true);
        desk.pop();
        Check.same("29: row 0 is not active", desk.setRow(0, false), false);
        Check.same("29: column 1 is not active", desk.setColumn(1, false), false);
    }

    private static void whatWasAddedSince() {
        AssignmentDesk desk = Desks.of(Desks.row(3));
        desk.push();
        desk.addRow();
        desk.addColumn();
        desk.setCost(0, 1, 1);
        desk.setCost(1, 0, 1);
        desk.setCost(1, 1, 9);
        Check.same("28: total() in the level", desk.total(), 2);
        desk.pop();
        Check.same("29: rowCount()", desk.rowCount(), 2);
        Check.same("29: columnCount()", desk.columnCount(), 2);
        Check.same("29: isAllowed(0, 0)", desk.isAllowed(0, 0), true);
        Check.same("29: isAllowed(0, 1)", desk.isAllowed(0, 1), false);
        Check.same("29: isAllowed(1, 0)", desk.isAllowed(1, 0), false);
        Check.same("29: isAllowed(1, 1)", desk.isAllowed(1, 1), false);
        Check.same("29: size()", desk.size(), 1);
        Check.same("29: setRow(1, true)", desk.setRow(1, true), false);
        Check.same("29: setColumn(1, true)", desk.setColumn(1, true), false);
        Check.same("29: addRow() goes on counting", desk.addRow(), 2);
        Check.same("29: and is active", desk.setRow(2, true), true);
    }

    private static void manyLevels() {
        AssignmentDesk desk = Desks.of(Desks.row(0));
        for (int level = 1; level <= 8; level++) {
            desk.setCost(0, 0, level);
            Check.same("28: push()", desk.push(), level);
            if (level == 4) {
                desk.addRow();
            }
        }
        desk.setCost(0, 0, 100);
        Check.failsUnchanged("28: push() with 8 levels", desk, STATE, desk::push);
        for (int level = 8; level >= 1; level--) {
            Check.same("29: pop()", desk.pop(), level - 1);
            Check.same("29: cost(0, 0)", desk.cost(0, 0), level);
            Check.same("29: total()", desk.total(), level);
            Check.same("29: row 1 since level 4", desk.setRow(1, level > 4), level > 4);
        }
        Check.failsUnchanged("29: pop() without a level", desk, STATE, desk::pop);
        Check.same("28: push() once more", desk.push(), 1);
        desk.forbid(0, 0);
        Check.same("29: pop() once more", desk.pop(), 0);
        Check.same("29: cost(0, 0) once more", desk.cost(0, 0), 1);
    }

    private static void digest() {
        AssignmentDesk desk = new AssignmentDesk();
        Check.same("30: nothing", desk.digest(), digestOf(0, 0, 0, 0, 0));
        desk.addRow();
        desk.addRow();
        desk.addColumn();
        desk.addColumn();
        desk.addColumn();
        Check.same("30: no pairs", desk.digest(), digestOf(2, 3, 0, 1, 1, 1, 1, 1, 20000, 20000,
                20000, 20000, 20000, 20000, 0, 0, -1, -1));
        desk.setCost(0, 0, -10000);
        desk.setCost(0, 2, 8);
        desk.setCost(1, 2, 7);
        desk.setRow(0, false);
        desk.setColumn(1, false);
        desk.push();
        Check.same("30: digest()", desk.digest(), digestOf(2, 3, 1, 0, 1, 1, 0, 1, -10000, 20000, 8,
                20000, 20000, 7, 1, 7, -1, 2));
        desk.setRow(0, true);
        Check.same("30: both rows", desk.digest(), digestOf(2, 3, 1, 1, 1, 1, 0, 1, -10000, 20000,
                8, 20000, 20000, 7, 2, -9993, 0, 2));
        desk.rank(3);
        Check.same("30: the list is not in it", desk.digest(), digestOf(2, 3, 1, 1, 1, 1, 0, 1,
                -10000, 20000, 8, 20000, 20000, 7, 2, -9993, 0, 2));
    }

    public static void main(String[] args) {
        pushAndPop();
        whatWasNotActiveIsNotActiveAgain();
        whatWasAddedSince();
        manyLevels();
        digest();
        Check.end();
    }
}
