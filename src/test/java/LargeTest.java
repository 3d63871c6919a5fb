/** Tables as large as can be: against the reference as far as it reaches, then by what must hold. */
public final class LargeTest {
    private long seed;

    private LargeTest(long seed) {
        this.seed = seed;
    }

    private int draw(int bound) {
        seed = seed * 6364136223846793005L + 1442695040888963407L;
        return (int) ((seed >>> 33) % bound);
    }

    /** Eight of ten rows and columns are active: as much as the reference can write down. */
    private void againstReference(int span) {
        AssignmentDesk desk = new AssignmentDesk();
        Reference reference = new Reference();
        for (int k = 0; k < 10; k++) {
            desk.addRow();
            desk.addColumn();
            reference.addRow();
            reference.addColumn();
        }
        int[] left = {draw(5), 5 + draw(5)};
        for (int out : left) {
            desk.setRow(out, false);
            reference.setRow(out, false);
            desk.setColumn(9 - out, false);
            reference.setColumn(9 - out, false);
        }
        for (int row = 0; row < 10; row++) {
            for (int column = 0; column < 10; column++) {
                int cost = draw(2 * span + 1) - span;
                desk.setCost(row, column, cost);
                reference.setCost(row, column, cost);
            }
        }
        compare(desk, reference);
    }

    private static void compare(AssignmentDesk desk, Reference reference) {
        Check.same("digest()", desk.digest(), reference.digest());
        Check.same("optimalCount()", desk.optimalCount(), reference.optimalCount());
        Check.same("rank(30)", desk.rank(30), reference.rank(30));
        for (int index = 0; index < 30; index++) {
            Check.same("rankedCost(" + index + ")", desk.rankedCost(index),
                    reference.rankedCost(index));
            for (int row = 0; row < 10; row++) {
                Check.same("rankedColumn(" + index + ", " + row + ")",
                        desk.rankedColumn(index, row), reference.rankedColumn(index, row));
            }
        }
        for (int row = 0; row < 10; row++) {
            for (int column = 0; column < 10; column++) {
                comparePair(desk, reference, row, column);
            }
        }
    }

    private static void comparePair(AssignmentDesk desk, Reference reference, int row,
            int column) {
        String pair = "(" + row + ", " + column + ")";
        Check.same("isPossible" + pair, desk.isPossible(row, column),
                reference.isPossible(row, column));
        Check.same("isCertain" + pair, desk.isCertain(row, column),
                reference.isCertain(row, column));
        Check.same("loss" + pair, desk.loss(row, column), reference.loss(row, column));
        Check.same("regret" + pair, Check.answerOf(() -> desk.regret(row, column)),
                Check.answerOf(() -> reference.regret(row, column)));
        Check.same("greatestCost" + pair, Check.answerOf(() -> desk.greatestCost(row, column)),
                Check.answerOf(() -> reference.greatestCost(row, column)));
    }

    /** Ten rows and columns, all active: each answer about a pair is told by other calls as well. */
    private void byOtherCalls(int span) {
        AssignmentDesk desk = Desks.even(10, 0);
        for (int row = 0; row < 10; row++) {
            for (int column = 0; column < 10; column++) {
                desk.setCost(row, column, draw(2 * span + 1) - span);
            }
        }
        int total = desk.total();
        for (int row = 0; row < 10; row++) {
            for (int column = 0; column < 10; column++) {
                String pair = "(" + row + ", " + column + ")";
                int with = restOf(desk, row, column);
                int cost = desk.cost(row, column);
                int without = withoutPair(desk, row, column);
                int greatest = Math.min(10000, without - with);
                Check.same("regret" + pair, desk.regret(row, column), with + cost - total);
                Check.same("loss" + pair, desk.loss(row, column), without - total);
                Check.same("greatestCost" + pair, desk.greatestCost(row, column),
                        greatest < -10000 ? -20000 : greatest);
                Check.same("isPossible" + pair, desk.isPossible(row, column),
                        with + cost == total);
                Check.same("isCertain" + pair, desk.isCertain(row, column), without > total);
            }
        }
        rankedInOrder(desk);
    }

    private static int restOf(AssignmentDesk desk, int row, int column) {
        desk.setRow(row, false);
        desk.setColumn(column, false);
        int rest = desk.total();
        desk.setRow(row, true);
        desk.setColumn(column, true);
        return rest;
    }

    private static int withoutPair(AssignmentDesk desk, int row, int column) {
        desk.push();
        desk.forbid(row, column);
        int total = desk.total();
        desk.pop();
        return total;
    }

    private static long pathOf(AssignmentDesk desk, int index) {
        long path = 0;
        for (int row = 0; row < 10; row++) {
            path = path * 16 + desk.rankedColumn(index, row);
        }
        return path;
    }

    private static void rankedInOrder(AssignmentDesk desk) {
        int count = desk.rank(30);
        Check.same("rank(30)", count, 30);
        int optimal = 0;
        for (int index = 0; index < count; index++) {
            int sum = 0;
            for (int row = 0; row < 10; row++) {
                sum += desk.cost(row, desk.rankedColumn(index, row));
            }
            Check.same("rankedCost(" + index + ")", desk.rankedCost(index), sum);
            optimal += sum == desk.total() ? 1 : 0;
            boolean isInOrder = index == 0 || desk.rankedCost(index - 1) < sum
                    || desk.rankedCost(index - 1) == sum
                    && pathOf(desk, index - 1) < pathOf(desk, index);
            Check.same("order at " + index, isInOrder, true);
        }
        for (int row = 0; row < 10; row++) {
            Check.same("the first is kept", desk.rankedColumn(0, row), desk.columnOf(row));
        }
        Check.same("optimal ones in the list", optimal, Math.min(30, desk.optimalCount()));
    }

    public static void main(String[] args) {
        int[] spans = {1, 3, 20, 10000};
        for (int span : spans) {
            new LargeTest(span + 5).againstReference(span);
            for (int round = 0; round < 5; round++) {
                new LargeTest(span * 31L + round).byOtherCalls(span);
            }
        }
        Check.end();
    }
}
