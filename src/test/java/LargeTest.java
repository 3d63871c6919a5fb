/**
 * Tables as large as can be: against the reference as far as it reaches, then by what must hold. A
 * desk is good for 512 calls: so there is a new one for each row that is asked about.
 */
public final class LargeTest {
    private final int[][] costs = new int[10][10];
    private final boolean[] leftOut = new boolean[10];
    private long seed;

    private LargeTest(long seed, int span) {
        this.seed = seed;
        for (int[] row : costs) {
            for (int column = 0; column < 10; column++) {
                row[column] = draw(2 * span + 1) - span;
            }
        }
    }

    private int draw(int bound) {
        seed = seed * 6364136223846793005L + 1442695040888963407L;
        return (int) ((seed >>> 33) % bound);
    }

    private AssignmentDesk desk() {
        AssignmentDesk desk = Desks.of(costs);
        for (int k = 0; k < 10; k++) {
            if (leftOut[k]) {
                desk.setRow(k, false);
                desk.setColumn(9 - k, false);
            }
        }
        return desk;
    }

    private Reference reference() {
        Reference reference = new Reference();
        for (int k = 0; k < 10; k++) {
            reference.addRow();
            reference.addColumn();
        }
        for (int row = 0; row < 10; row++) {
            for (int column = 0; column < 10; column++) {
                reference.setCost(row, column, costs[row][column]);
            }
            if (leftOut[row]) {
                reference.setRow(row, false);
                reference.setColumn(9 - row, false);
            }
        }
        return reference;
    }

    /** Eight of ten rows and columns are active: as much as the reference can write down. */
    private void againstReference() {
        leftOut[draw(5)] = true;
        leftOut[5 + draw(5)] = true;
        Reference reference = reference();
        compareList(desk(), reference);
        for (int row = 0; row < 10; row++) {
            AssignmentDesk desk = desk();
            for (int column = 0; column < 10; column++) {
                comparePair(desk, reference, row, column);
            }
        }
    }

    private static void compareList(AssignmentDesk desk, Reference reference) {
        Check.same("digest()", desk.digest(), reference.digest());
        Check.same("optimalCount()", desk.optimalCount(), reference.optimalCount());
        Check.same("rank(30)", desk.rank(30), reference.rank(30));
        for (int index = 0; index < 30; index++) {
            Check.same("rankedCost(" + index + ")", desk.rankedCost(index),
                    reference.rankedCost(index));
            for (int row = 0; row < 10; row++) {
                Check.same("rankedColumn(" + index + ", " + row + ")",
                        desk.rankedColumn(index, row), reference.rankedColumn(index, row));
            }
        }
    }

    private static void comparePair(AssignmentDesk desk, Reference reference, int row,
            int column) {
        String pair = "(" + row + ", " + column + ")";
        Check.same("isPossible" + pair, desk.isPossible(row, column),
                reference.isPossible(row, column));
        Check.same("isCertain" + pair, desk.isCertain(row, column),
                reference.isCertain(row, column));
        Check.same("loss" + pair, desk.loss(row, column), reference.loss(row, column));
        Check.same("regret" + pair, Check.answerOf(() -> desk.regret(row, column)),
                Check.answerOf(() -> reference.regret(row, column)));
        Check.same("greatestCost" + pair, Check.answerOf(() -> desk.greatestCost(row, column)),
                Check.answerOf(() -> reference.greatestCost(row, column)));
    }

    /** Ten rows and columns, all active: each answer about a pair is told by other calls too. */
    private void byOtherCalls() {
        for (int row = 0; row < 10; row++) {
            AssignmentDesk desk = desk();
            int total = desk.total();
            for (int column = 0; column < 10; column++) {
                pairByOtherCalls(desk, row, column, total);
            }
        }
        rankedInOrder(desk());
    }

    private void pairByOtherCalls(AssignmentDesk desk, int row, int column, int total) {
        String pair = "(" + row + ", " + column + ")";
        int rest = restOf(desk, row, column);
        int with = rest + costs[row][column];
        int without = withoutPair(desk, row, column);
        int greatest = Math.min(10000, without - rest);
        Check.same("regret" + pair, desk.regret(row, column), with - total);
        Check.same("loss" + pair, desk.loss(row, column), without - total);
        Check.same("greatestCost" + pair, desk.greatestCost(row, column),
                greatest < -10000 ? -20000 : greatest);
        Check.same("isPossible" + pair, desk.isPossible(row, column), with == total);
        Check.same("isCertain" + pair, desk.isCertain(row, column), without > total);
    }

    private static int restOf(AssignmentDesk desk, int row, int column) {
        desk.setRow(row, false);
        desk.setColumn(column, false);
        int rest = desk.total();
        desk.setRow(row, true);
        desk.setColumn(column, true);
        return rest;
    }

    private static int withoutPair(AssignmentDesk desk, int row, int column) {
        desk.push();
        desk.forbid(row, column);
        int total = desk.total();
        desk.pop();
        return total;
    }

    private void rankedInOrder(AssignmentDesk desk) {
        Check.same("rank(30)", desk.rank(30), 30);
        int total = desk.total();
        int optimal = 0;
        int lastSum = Integer.MIN_VALUE;
        long lastPath = 0;
        for (int index = 0; index < 30; index++) {
            int sum = 0;
            long path = 0;
            for (int row = 0; row < 10; row++) {
                int column = desk.rankedColumn(index, row);
                sum += costs[row][column];
                path = path * 16 + column;
                if (index == 0) {
                    Check.same("the first is kept", column, desk.columnOf(row));
                }
            }
            Check.same("rankedCost(" + index + ")", desk.rankedCost(index), sum);
            boolean isInOrder = lastSum < sum || lastSum == sum && lastPath < path;
            Check.same("order at " + index, isInOrder, true);
            optimal += sum == total ? 1 : 0;
            lastSum = sum;
            lastPath = path;
        }
        Check.same("optimal ones in the list", optimal, Math.min(30, desk.optimalCount()));
    }

    public static void main(String[] args) {
        int[] spans = {1, 3, 20, 10000};
        for (int span : spans) {
            new LargeTest(span + 5, span).againstReference();
            for (int round = 0; round < 5; round++) {
                new LargeTest(span * 31L + round, span).byOtherCalls();
            }
        }
        Check.end();
    }
}
