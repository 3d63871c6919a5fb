/** Promises 25 to 27: the list of the first full assignments. */
public final class RankingTest {
    private static final Class<?> BOUNDS = IndexOutOfBoundsException.class;
    private static final Class<?> ARGUMENT = IllegalArgumentException.class;
    private static final int NO = Desks.NO;
    private static final int[] WRONG_LIMITS = {0, 31, -1, Integer.MIN_VALUE, Integer.MAX_VALUE};

    private static void sameList(String name, AssignmentDesk desk, int[][] due) {
        for (int index = 0; index < due.length; index++) {
            int[] one = due[index];
            Check.same(name + ": rankedCost(" + index + ")", desk.rankedCost(index), one[0]);
            for (int row = 0; row + 1 < one.length; row++) {
                Check.same(name + ": rankedColumn(" + index + ", " + row + ")",
                        desk.rankedColumn(index, row), one[row + 1]);
            }
        }
        Check.fails(name + ": rankedCost behind the list", BOUNDS,
                () -> desk.rankedCost(due.length));
        Check.fails(name + ": rankedColumn behind the list", BOUNDS,
                () -> desk.rankedColumn(due.length, 0));
    }

    private static void order() {
        AssignmentDesk desk = Desks.of(Desks.row(1, 2, 3), Desks.row(2, 3, 4), Desks.row(3, 4, 6));
        Check.same("25: rank(30)", desk.rank(30), 6);
        sameList("25", desk, new int[][] {{9, 0, 2, 1}, {9, 1, 2, 0}, {9, 2, 0, 1}, {9, 2, 1, 0},
            {10, 0, 1, 2}, {10, 1, 0, 2}});
        Check.same("25: rank(3)", desk.rank(3), 3);
        sameList("25: the first three", desk, new int[][] {{9, 0, 2, 1}, {9, 1, 2, 0},
            {9, 2, 0, 1}});
        Check.same("25: rank(1)", desk.rank(1), 1);
        sameList("25: the first", desk, new int[][] {{9, 0, 2, 1}});
    }

    private static void noneIsBehindAllColumns() {
        AssignmentDesk desk = Desks.of(Desks.row(1, 1), Desks.row(1, 1), Desks.row(1, 1));
        Check.same("25: rank(30) with rows left over", desk.rank(30), 6);
        sameList("25: none", desk, new int[][] {{2, 0, 1, -1}, {2, 0, -1, 1}, {2, 1, 0, -1},
            {2, 1, -1, 0}, {2, -1, 0, 1}, {2, -1, 1, 0}});
    }

    private static void onlyFullOnes() {
        AssignmentDesk desk = Desks.of(Desks.row(-10000, 10000), Desks.row(10000, NO));
        Check.same("25: rank(30) of one full", desk.rank(30), 1);
        sameList("25: full", desk, new int[][] {{20000, 1, 0}});
        AssignmentDesk nothing = new AssignmentDesk();
        Check.fails("26: no list", BOUNDS, () -> nothing.rankedCost(0));
        Check.fails("27: no list", BOUNDS, () -> nothing.rankedColumn(0, 0));
        Check.same("25: rank(30) of nothing", nothing.rank(30), 1);
        sameList("25: nothing", nothing, new int[][] {{0}});
        Check.fails("27: no row", BOUNDS, () -> nothing.rankedColumn(0, 0));
        nothing.addRow();
        Check.same("27: a row that did not exist yet", nothing.rankedColumn(0, 0), -1);
    }

    private static void noMoreThanTheLimit() {
        AssignmentDesk desk = Desks.even(10, 1);
        Check.same("25: rank(30) of many", desk.rank(30), 30);
        Check.same("25: the last cost", desk.rankedCost(29), 10);
        int[] last = {0, 1, 2, 3, 4, 6, 5, 9, 8, 7};
        for (int row = 0; row < 10; row++) {
            Check.same("25: rankedColumn(29, " + row + ")", desk.rankedColumn(29, row), last[row]);
        }
        for (int limit = 1; limit <= 30; limit++) {
            Check.same("25: rank(" + limit + ")", desk.rank(limit), limit);
        }
    }

    private static void fallingCosts() {
        AssignmentDesk desk = Desks.empty(7, 7);
        int[] weights = {1000, 200, 40, 10, 5, 2, 1};
        for (int row = 0; row < 7; row++) {
            for (int column = 0; column < 7; column++) {
                desk.setCost(row, column, -column * weights[row]);
            }
        }
        desk.rank(30);
        for (int index = 0; index < 30; index++) {
            Check.same("25: the dearest row's column", desk.rankedColumn(index, 0), 6);
            Check.same("25: not falling", index == 0
                    || desk.rankedCost(index - 1) <= desk.rankedCost(index), true);
        }
        Check.same("25: the first is the total", desk.rankedCost(0), desk.total());
    }

    private static void listStays() {
        AssignmentDesk desk = Desks.of(Desks.row(1, 2), Desks.row(4, 3));
        desk.rank(30);
        int[][] due = {{4, 0, 1}, {6, 1, 0}};
        sameList("25: at first", desk, due);
        desk.push();
        desk.addRow();
        desk.addColumn();
        desk.setCost(2, 2, -5);
        desk.forbid(0, 0);
        desk.addToRow(1, 100);
        desk.setRow(0, false);
        desk.total();
        desk.optimalCount();
        desk.regret(2, 2);
        sameList("25: after changes", desk, due);
        Check.same("27: a row that did not exist yet", desk.rankedColumn(1, 2), -1);
        desk.pop();
        sameList("25: after pop", desk, due);
        for (int wrong : WRONG_LIMITS) {
            Check.failsUnchanged("25: rank(" + wrong + ")", desk, ARGUMENT,
                    () -> desk.rank(wrong));
            sameList("25: after rank(" + wrong + ")", desk, due);
        }
        desk.setRow(0, false);
        Check.same("25: rank(30) anew", desk.rank(30), 2);
        sameList("25: anew", desk, new int[][] {{3, -1, 1, -1}, {4, -1, 0, -1}});
    }

    private static void wrongInputs() {
        AssignmentDesk desk = Desks.of(Desks.row(1, 2), Desks.row(4, 3));
        int[] wrongNumbers = {-1, 2, 10, 30, Integer.MIN_VALUE, Integer.MAX_VALUE};
        desk.rank(2);
        for (int wrong : wrongNumbers) {
            Check.failsUnchanged("26: rankedCost(" + wrong + ")", desk, BOUNDS,
                    () -> desk.rankedCost(wrong));
            Check.failsUnchanged("27: rankedColumn(" + wrong + ", 0)", desk, BOUNDS,
                    () -> desk.rankedColumn(wrong, 0));
            Check.failsUnchanged("27: rankedColumn(0, " + wrong + ")", desk, BOUNDS,
                    () -> desk.rankedColumn(0, wrong));
        }
    }

    public static void main(String[] args) {
        order();
        noneIsBehindAllColumns();
        onlyFullOnes();
        noMoreThanTheLimit();
        fallingCosts();
        listStays();
        wrongInputs();
        Check.end();
    }
}
