/** Runs of calls, drawn by a fixed rule, on a desk and on the reference: the answers must agree. */
public final class RandomRunsTest {
    private static final int RUNS = 1200;
    /** What a desk answers to more calls is free. */
    private static final int CALLS = 512;
    private static final double MOST_WEIGHT = 20000;
    private static final int[] ODD_NUMBERS = {Integer.MIN_VALUE, -10001, -1, 10, 31, 10001,
        Integer.MAX_VALUE};
    private static final double[] FACTORS = {-100, 100, 100.00000000000001, Double.NaN,
        Double.POSITIVE_INFINITY, Double.NEGATIVE_INFINITY, 0.0, -0.0, 0.5, -0.5, 1.5, 2.5, 0.1, -1,
        1, 1.0001, 0.25, 0.75, Double.MIN_VALUE, 1.0 / 3.0};

    private final int run;
    private long seed;
    private final AssignmentDesk desk = new AssignmentDesk();
    private final Reference reference = new Reference();
    private final StringBuilder calls = new StringBuilder();
    private int made = 0;

    private RandomRunsTest(int run) {
        this.run = run;
        seed = run * 7919L + 17;
    }

    private int draw(int bound) {
        seed = seed * 6364136223846793005L + 1442695040888963407L;
        return (int) ((seed >>> 33) % bound);
    }

    private int drawRow() {
        return draw(60) == 0 ? ODD_NUMBERS[draw(7)] : draw(Math.max(1, reference.rowCount()));
    }

    private int drawColumn() {
        return draw(60) == 0 ? ODD_NUMBERS[draw(7)] : draw(Math.max(1, reference.columnCount()));
    }

    private int drawCost() {
        if (draw(80) == 0) {
            return ODD_NUMBERS[draw(7)];
        }
        switch (run % 4) {
            case 0:
                return draw(3);
            case 1:
                return draw(20001) - 10000;
            case 2:
                return draw(2) == 0 ? 10000 - draw(2) : -10000 + draw(2);
            default:
                return draw(12) - 4;
        }
    }

    private boolean drawBoolean() {
        return draw(3) != 0;
    }

    private double drawFactor() {
        return draw(2) == 0 ? FACTORS[draw(FACTORS.length)] : (draw(4001) - 2000) / 512.0;
    }

    private boolean isOver() {
        return made >= CALLS;
    }

    private void compare(String call, Check.Call got, Check.Call due) {
        if (isOver()) {
            return;
        }
        made++;
        calls.append(' ').append(call);
        Object dueAnswer = Check.answerOf(due);
        Object gotAnswer = Check.answerOf(got);
        String label = dueAnswer.equals(gotAnswer) ? call : "run " + run + ":" + calls;
        Check.same(label, gotAnswer, dueAnswer);
    }

    private void build() {
        int rows = draw(run % 3 == 0 ? 11 : 6);
        int columns = draw(run % 3 == 1 ? 11 : 6);
        for (int row = 0; row < rows; row++) {
            compare("addRow()", desk::addRow, reference::addRow);
        }
        for (int column = 0; column < columns; column++) {
            compare("addColumn()", desk::addColumn, reference::addColumn);
        }
        int pairs = rows * columns;
        for (int k = 0; k < pairs && reference.weight() < MOST_WEIGHT; k++) {
            setCost();
        }
    }

    private void setCost() {
        int row = drawRow();
        int column = drawColumn();
        int cost = drawCost();
        compare("setCost(" + row + ", " + column + ", " + cost + ")",
                () -> desk.setCost(row, column, cost), () -> reference.setCost(row, column, cost));
    }

    private void forbid() {
        int row = drawRow();
        int column = drawColumn();
        compare("forbid(" + row + ", " + column + ")",
                () -> desk.forbid(row, column), () -> reference.forbid(row, column));
    }

    private void setActive() {
        boolean isActive = drawBoolean();
        if (draw(2) == 0) {
            int row = drawRow();
            compare("setRow(" + row + ", " + isActive + ")",
                    () -> desk.setRow(row, isActive), () -> reference.setRow(row, isActive));
        } else {
            int column = drawColumn();
            compare("setColumn(" + column + ", " + isActive + ")",
                    () -> desk.setColumn(column, isActive),
                    () -> reference.setColumn(column, isActive));
        }
    }

    private void changeCosts() {
        if (draw(2) == 0) {
            int row = drawRow();
            int amount = draw(2) == 0 ? draw(7) - 3 : drawCost();
            compare("addToRow(" + row + ", " + amount + ")",
                    () -> desk.addToRow(row, amount), () -> reference.addToRow(row, amount));
        } else {
            int column = drawColumn();
            double factor = drawFactor();
            compare("scaleColumn(" + column + ", " + factor + ")",
                    () -> desk.scaleColumn(column, factor),
                    () -> reference.scaleColumn(column, factor));
        }
    }

    private void add() {
        if (draw(2) == 0) {
            compare("addRow()", desk::addRow, reference::addRow);
        } else {
            compare("addColumn()", desk::addColumn, reference::addColumn);
        }
    }

    private void changeLevel() {
        if (draw(5) < 3) {
            compare("push()", desk::push, reference::push);
        } else {
            compare("pop()", desk::pop, reference::pop);
        }
    }

    private void change() {
        int kind = draw(20);
        if (kind < 9) {
            setCost();
        } else if (kind < 11) {
            forbid();
        } else if (kind < 14) {
            setActive();
        } else if (kind < 16) {
            changeCosts();
        } else if (kind < 17) {
            add();
        } else {
            changeLevel();
        }
        while (reference.weight() > MOST_WEIGHT && !isOver()) {
            forbid();
        }
    }

    private void askWhole() {
        compare("rowCount()", desk::rowCount, reference::rowCount);
        compare("columnCount()", desk::columnCount, reference::columnCount);
        compare("size()", desk::size, reference::size);
        compare("total()", desk::total, reference::total);
        compare("meanCost()", desk::meanCost, reference::meanCost);
        compare("optimalCount()", desk::optimalCount, reference::optimalCount);
        compare("digest()", desk::digest, reference::digest);
    }

    private void askLines() {
        int row = drawRow();
        int column = drawColumn();
        compare("columnOf(" + row + ")", () -> desk.columnOf(row), () -> reference.columnOf(row));
        compare("rowOf(" + column + ")", () -> desk.rowOf(column), () -> reference.rowOf(column));
    }

    private void askPair() {
        int row = drawRow();
        int column = drawColumn();
        String pair = "(" + row + ", " + column + ")";
        compare("isAllowed" + pair, () -> desk.isAllowed(row, column),
                () -> reference.isAllowed(row, column));
        compare("cost" + pair, () -> desk.cost(row, column), () -> reference.cost(row, column));
        compare("isPossible" + pair, () -> desk.isPossible(row, column),
                () -> reference.isPossible(row, column));
        compare("isCertain" + pair, () -> desk.isCertain(row, column),
                () -> reference.isCertain(row, column));
        compare("regret" + pair, () -> desk.regret(row, column),
                () -> reference.regret(row, column));
        compare("loss" + pair, () -> desk.loss(row, column), () -> reference.loss(row, column));
        compare("greatestCost" + pair, () -> desk.greatestCost(row, column),
                () -> reference.greatestCost(row, column));
    }

    private void makeList() {
        int limit = draw(10) == 0 ? ODD_NUMBERS[draw(7)] : draw(32);
        compare("rank(" + limit + ")", () -> desk.rank(limit), () -> reference.rank(limit));
    }

    private void askList() {
        int index = draw(20) == 0 ? ODD_NUMBERS[draw(7)] : draw(31);
        int row = drawRow();
        compare("rankedCost(" + index + ")", () -> desk.rankedCost(index),
                () -> reference.rankedCost(index));
        compare("rankedColumn(" + index + ", " + row + ")", () -> desk.rankedColumn(index, row),
                () -> reference.rankedColumn(index, row));
    }

    private void play() {
        build();
        while (!isOver()) {
            switch (draw(8)) {
                case 0:
                case 1:
                case 2:
                    change();
                    break;
                case 3:
                    askWhole();
                    break;
                case 4:
                    askLines();
                    break;
                case 5:
                    askPair();
                    break;
                case 6:
                    makeList();
                    break;
                default:
                    askList();
                    break;
            }
        }
    }

    public static void main(String[] args) {
        for (int run = 0; run < RUNS; run++) {
            new RandomRunsTest(run).play();
        }
        Check.end();
    }
}
