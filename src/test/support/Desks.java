/** Makes desks for tests. */
final class Desks {
    static final int NO = Integer.MIN_VALUE;

    private Desks() {
    }

    static AssignmentDesk empty(int rows, int columns) {
        AssignmentDesk desk = new AssignmentDesk();
        for (int row = 0; row < rows; row++) {
            desk.addRow();
        }
        for (int column = 0; column < columns; column++) {
            desk.addColumn();
        }
        return desk;
    }

    /** A desk with these costs, an array for each row; NO is a forbidden pair. */
    static AssignmentDesk of(int[]... costs) {
        AssignmentDesk desk = empty(costs.length, costs[0].length);
        for (int row = 0; row < costs.length; row++) {
            for (int column = 0; column < costs[row].length; column++) {
                if (costs[row][column] != NO) {
                    desk.setCost(row, column, costs[row][column]);
                }
            }
        }
        return desk;
    }

    static int[] row(int... costs) {
        return costs;
    }

    /** A square desk with one cost for all pairs. */
    static AssignmentDesk even(int width, int cost) {
        AssignmentDesk desk = empty(width, width);
        for (int row = 0; row < width; row++) {
            for (int column = 0; column < width; column++) {
                desk.setCost(row, column, cost);
            }
        }
        return desk;
    }
}
