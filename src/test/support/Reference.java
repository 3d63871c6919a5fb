import java.util.ArrayDeque;
import java.util.ArrayList;
import java.util.Arrays;
import java.util.Collections;
import java.util.Deque;
import java.util.List;
import java.util.NoSuchElementException;

/**
 * The document in its plainest form: it writes down every full assignment, sorts them, and looks at
 * the list. Only for tables with few assignments.
 */
final class Reference {
    private static final class Assignment implements Comparable<Assignment> {
        final int[] columns;
        final int cost;

        Assignment(int[] columns, int cost) {
            this.columns = columns.clone();
            this.cost = cost;
        }

        boolean has(int row, int column) {
            return columns[row] == column;
        }

        int column(int row) {
            return row < columns.length ? columns[row] : -1;
        }

        int pairs() {
            int pairs = 0;
            for (int column : columns) {
                pairs += column >= 0 ? 1 : 0;
            }
            return pairs;
        }

        @Override
        public int compareTo(Assignment other) {
            if (cost != other.cost) {
                return Integer.compare(cost, other.cost);
            }
            for (int row = 0; row < columns.length; row++) {
                if (columns[row] != other.columns[row]) {
                    return Integer.compare(place(columns[row]), place(other.columns[row]));
                }
            }
            return 0;
        }

        private static int place(int column) {
            return column < 0 ? Integer.MAX_VALUE : column;
        }
    }

    private static final class Level {
        final boolean[] activeRows;
        final boolean[] activeColumns;
        final Integer[][] costs;

        Level(Reference now) {
            activeRows = now.activeRows.clone();
            activeColumns = now.activeColumns.clone();
            costs = copy(now.costs);
        }
    }

    private int rows = 0;
    private int columns = 0;
    private boolean[] activeRows = new boolean[10];
    private boolean[] activeColumns = new boolean[10];
    private Integer[][] costs = new Integer[10][10];
    private final Deque<Level> levels = new ArrayDeque<>();
    private List<Assignment> ranked = new ArrayList<>();
    private List<Assignment> full = null;
    private int most = 0;

    private static Integer[][] copy(Integer[][] costs) {
        Integer[][] copy = new Integer[costs.length][];
        for (int row = 0; row < costs.length; row++) {
            copy[row] = costs[row].clone();
        }
        return copy;
    }

    private void requireRow(int row) {
        if (row < 0 || row >= rows) {
            throw new IndexOutOfBoundsException();
        }
    }

    private void requireColumn(int column) {
        if (column < 0 || column >= columns) {
            throw new IndexOutOfBoundsException();
        }
    }

    private void requirePair(int row, int column) {
        requireRow(row);
        requireColumn(column);
    }

    private boolean isUsable(int row, int column) {
        return activeRows[row] && activeColumns[column] && costs[row][column] != null;
    }

    private void requireUsable(int row, int column) {
        requirePair(row, column);
        if (!isUsable(row, column)) {
            throw new NoSuchElementException();
        }
    }

    private static boolean isCost(long cost) {
        return cost >= -10000 && cost <= 10000;
    }

    private List<Assignment> full() {
        if (full == null) {
            most = 0;
            List<Assignment> all = new ArrayList<>();
            collect(0, 0, 0, new int[rows], new boolean[10], all);
            full = new ArrayList<>();
            for (Assignment one : all) {
                if (one.pairs() == most) {
                    full.add(one);
                }
            }
            Collections.sort(full);
        }
        return full;
    }

    /** Leaves out only what has less pairs than an assignment that is written down already. */
    private void collect(int row, int pairs, int cost, int[] chosen, boolean[] taken,
            List<Assignment> all) {
        if (pairs + rows - row < most) {
            return;
        }
        if (row == rows) {
            most = pairs;
            all.add(new Assignment(chosen, cost));
            return;
        }
        for (int column = 0; column < columns; column++) {
            if (isUsable(row, column) && !taken[column]) {
                taken[column] = true;
                chosen[row] = column;
                collect(row + 1, pairs + 1, cost + costs[row][column], chosen, taken, all);
                taken[column] = false;
            }
        }
        chosen[row] = -1;
        collect(row + 1, pairs, cost, chosen, taken, all);
    }

    private Assignment best() {
        return full().get(0);
    }

    int addRow() {
        if (rows == 10) {
            throw new IllegalStateException();
        }
        full = null;
        activeRows[rows] = true;
        return rows++;
    }

    int addColumn() {
        if (columns == 10) {
            throw new IllegalStateException();
        }
        full = null;
        activeColumns[columns] = true;
        return columns++;
    }

    boolean setRow(int row, boolean isActive) {
        requireRow(row);
        full = null;
        boolean was = activeRows[row];
        activeRows[row] = isActive;
        return was;
    }

    boolean setColumn(int column, boolean isActive) {
        requireColumn(column);
        full = null;
        boolean was = activeColumns[column];
        activeColumns[column] = isActive;
        return was;
    }

    boolean setCost(int row, int column, int cost) {
        requirePair(row, column);
        if (!isCost(cost)) {
            throw new IllegalArgumentException();
        }
        full = null;
        boolean was = costs[row][column] != null;
        costs[row][column] = cost;
        return was;
    }

    boolean forbid(int row, int column) {
        requirePair(row, column);
        full = null;
        boolean was = costs[row][column] != null;
        costs[row][column] = null;
        return was;
    }

    int addToRow(int row, int amount) {
        requireRow(row);
        Integer[][] changed = copy(costs);
        int count = 0;
        for (int column = 0; column < columns; column++) {
            if (costs[row][column] != null) {
                long cost = (long) costs[row][column] + amount;
                if (!isCost(cost)) {
                    throw new ArithmeticException();
                }
                changed[row][column] = (int) cost;
                count++;
            }
        }
        full = null;
        costs = changed;
        return count;
    }

    int scaleColumn(int column, double factor) {
        requireColumn(column);
        if (Double.isNaN(factor) || factor < -100 || factor > 100) {
            throw new IllegalArgumentException();
        }
        Integer[][] changed = copy(costs);
        int count = 0;
        for (int row = 0; row < rows; row++) {
            if (costs[row][column] != null) {
                long cost = (long) Math.rint(costs[row][column].doubleValue() * factor);
                if (!isCost(cost)) {
                    throw new ArithmeticException();
                }
                changed[row][column] = (int) cost;
                count += cost == costs[row][column] ? 0 : 1;
            }
        }
        full = null;
        costs = changed;
        return count;
    }

    int rowCount() {
        return rows;
    }

    int columnCount() {
        return columns;
    }

    boolean isAllowed(int row, int column) {
        requirePair(row, column);
        return costs[row][column] != null;
    }

    int cost(int row, int column) {
        requirePair(row, column);
        if (costs[row][column] == null) {
            throw new NoSuchElementException();
        }
        return costs[row][column];
    }

    int size() {
        return best().pairs();
    }

    int total() {
        return best().cost;
    }

    double meanCost() {
        return size() == 0 ? 0.0 : (double) total() / (double) size();
    }

    int columnOf(int row) {
        requireRow(row);
        return best().column(row);
    }

    int rowOf(int column) {
        requireColumn(column);
        for (int row = 0; row < rows; row++) {
            if (best().has(row, column)) {
                return row;
            }
        }
        return -1;
    }

    private List<Assignment> optimal() {
        List<Assignment> optimal = new ArrayList<>();
        for (Assignment one : full()) {
            if (one.cost == total()) {
                optimal.add(one);
            }
        }
        return optimal;
    }

    int optimalCount() {
        return optimal().size();
    }

    private int optimalWith(int row, int column) {
        int count = 0;
        for (Assignment one : optimal()) {
            count += one.has(row, column) ? 1 : 0;
        }
        return count;
    }

    boolean isPossible(int row, int column) {
        requirePair(row, column);
        return optimalWith(row, column) > 0;
    }

    boolean isCertain(int row, int column) {
        requirePair(row, column);
        return optimalWith(row, column) == optimalCount();
    }

    /** The full list is sorted: so the first one found is the cheapest. */
    private int extra(int row, int column, boolean isWith) {
        for (Assignment one : full()) {
            if (one.has(row, column) == isWith) {
                return one.cost - total();
            }
        }
        return -1;
    }

    int regret(int row, int column) {
        requireUsable(row, column);
        return extra(row, column, true);
    }

    int loss(int row, int column) {
        requirePair(row, column);
        return extra(row, column, false);
    }

    /** Tries out costs by halves: a pair that is possible with a cost is so with a lower one. */
    int greatestCost(int row, int column) {
        requireUsable(row, column);
        if (!wouldBePossible(row, column, -10000)) {
            return -20000;
        }
        int good = -10000;
        int bad = 10001;
        while (bad - good > 1) {
            int middle = Math.floorDiv(good + bad, 2);
            if (wouldBePossible(row, column, middle)) {
                good = middle;
            } else {
                bad = middle;
            }
        }
        return good;
    }

    private boolean wouldBePossible(int row, int column, int cost) {
        int shift = cost - costs[row][column];
        int with = Integer.MAX_VALUE;
        int without = Integer.MAX_VALUE;
        for (Assignment one : full()) {
            if (one.has(row, column)) {
                with = Math.min(with, one.cost + shift);
            } else {
                without = Math.min(without, one.cost);
            }
        }
        return with != Integer.MAX_VALUE && with <= without;
    }

    int rank(int limit) {
        if (limit < 1 || limit > 30) {
            throw new IllegalArgumentException();
        }
        ranked = new ArrayList<>(full().subList(0, Math.min(limit, full().size())));
        return ranked.size();
    }

    private void requireRanked(int index) {
        if (index < 0 || index >= ranked.size()) {
            throw new IndexOutOfBoundsException();
        }
    }

    int rankedCost(int index) {
        requireRanked(index);
        return ranked.get(index).cost;
    }

    int rankedColumn(int index, int row) {
        requireRanked(index);
        requireRow(row);
        return ranked.get(index).column(row);
    }

    int push() {
        if (levels.size() == 8) {
            throw new IllegalStateException();
        }
        levels.push(new Level(this));
        return levels.size();
    }

    int pop() {
        if (levels.isEmpty()) {
            throw new IllegalStateException();
        }
        full = null;
        Level level = levels.pop();
        activeRows = Arrays.copyOf(level.activeRows, 10);
        activeColumns = Arrays.copyOf(level.activeColumns, 10);
        costs = copy(level.costs);
        return levels.size();
    }

    long digest() {
        List<Integer> numbers = new ArrayList<>(List.of(rows, columns, levels.size()));
        for (int row = 0; row < rows; row++) {
            numbers.add(activeRows[row] ? 1 : 0);
        }
        for (int column = 0; column < columns; column++) {
            numbers.add(activeColumns[column] ? 1 : 0);
        }
        for (int row = 0; row < rows; row++) {
            for (int column = 0; column < columns; column++) {
                numbers.add(costs[row][column] == null ? 20000 : costs[row][column]);
            }
        }
        numbers.add(size());
        numbers.add(total());
        for (int row = 0; row < rows; row++) {
            numbers.add(columnOf(row));
        }
        long digest = 41;
        for (int number : numbers) {
            digest = digest * 31 + number;
        }
        return digest;
    }

    /** A bound of the number of assignments, to keep a test within its means. */
    double weight() {
        double weight = 1;
        for (int row = 0; row < rows; row++) {
            int choices = 1;
            for (int column = 0; column < columns; column++) {
                choices += isUsable(row, column) ? 1 : 0;
            }
            weight *= choices;
        }
        return weight;
    }
}
