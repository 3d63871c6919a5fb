import java.util.Arrays;
import java.util.NoSuchElementException;

/**
 * A solver for assignments of rows to columns at least cost. Rows and columns can be added, left
 * out and taken in again, pairs can be forbidden, and costs can change at any time. It keeps an
 * optimal assignment, tells what it depends on, counts the optimal assignments, and lists the best
 * ones.
 */
public final class AssignmentDesk {
    /** The most rows, and the most columns. */
    private static final int MOST = 10;
    private static final int CELLS = MOST * MOST;
    /** The number of sets of columns; a set is an int with a bit for each of its columns. */
    private static final int SETS = 1 << MOST;
    private static final int MOST_LEVELS = 8;
    private static final int MOST_RANKED = 30;
    private static final int LEAST_COST = -10000;
    private static final int GREATEST_COST = 10000;
    /** Stands in the table for a forbidden pair; the digest asks for this very number. */
    private static final int FORBIDDEN = 20000;
    private static final int NO_SUCH_COST = -20000;
    private static final int GREATEST_FACTOR = 100;
    private static final int NONE = -1;

    private final Table table = new Table();
    private final Levels levels = new Levels();
    private final Solver solver = new Solver();
    private final Ranking ranking = new Ranking();
    /** Whether the solver has solved the table as it is now. */
    private boolean isSolved;

    public AssignmentDesk() {
    }

    public int addRow() throws IllegalStateException {
        if (table.rows >= MOST) {
            throw new IllegalStateException("there are 10 rows");
        }
        isSolved = false;
        return table.appendRow();
    }

    public int addColumn() throws IllegalStateException {
        if (table.columns >= MOST) {
            throw new IllegalStateException("there are 10 columns");
        }
        isSolved = false;
        return table.appendColumn();
    }

    public boolean setRow(int row, boolean isActive) throws IndexOutOfBoundsException {
        requireRow(row);
        boolean wasActive = hasBit(table.activeRows, row);
        table.activeRows = withBit(table.activeRows, row, isActive);
        isSolved = false;
        return wasActive;
    }

    public boolean setColumn(int column, boolean isActive) throws IndexOutOfBoundsException {
        requireColumn(column);
        boolean wasActive = hasBit(table.activeColumns, column);
        table.activeColumns = withBit(table.activeColumns, column, isActive);
        isSolved = false;
        return wasActive;
    }

    public boolean setCost(int row, int column, int cost)
            throws IndexOutOfBoundsException, IllegalArgumentException {
        requirePair(row, column);
        if (!isCost(cost)) {
            throw new IllegalArgumentException("the cost is not from -10000 to 10000");
        }
        return replaceCell(row, column, cost);
    }

    public boolean forbid(int row, int column) throws IndexOutOfBoundsException {
        requirePair(row, column);
        return replaceCell(row, column, FORBIDDEN);
    }

    public int addToRow(int row, int amount)
            throws IndexOutOfBoundsException, ArithmeticException {
        requireRow(row);
        if (!table.canShiftRow(row, amount)) {
            throw new ArithmeticException("a cost would not be from -10000 to 10000");
        }
        isSolved = false;
        return table.shiftRow(row, amount);
    }

    public int scaleColumn(int column, double factor)
            throws IndexOutOfBoundsException, IllegalArgumentException, ArithmeticException {
        requireColumn(column);
        // Asked this way round, so that NaN is refused too.
        if (!(factor >= -GREATEST_FACTOR && factor <= GREATEST_FACTOR)) {
            throw new IllegalArgumentException("the factor is not from -100 to 100");
        }
        if (!table.canStretchColumn(column, factor)) {
            throw new ArithmeticException("a cost would not be from -10000 to 10000");
        }
        isSolved = false;
        return table.stretchColumn(column, factor);
    }

    public int rowCount() {
        return table.rows;
    }

    public int columnCount() {
        return table.columns;
    }

    public boolean isAllowed(int row, int column) throws IndexOutOfBoundsException {
        requirePair(row, column);
        return table.cell(row, column) != FORBIDDEN;
    }

    public int cost(int row, int column)
            throws IndexOutOfBoundsException, NoSuchElementException {
        requirePair(row, column);
        int cell = table.cell(row, column);
        if (cell == FORBIDDEN) {
            throw new NoSuchElementException("the pair is forbidden");
        }
        return cell;
    }

    public int size() {
        return Solver.sizeOf(solved().fullScore);
    }

    public int total() {
        return Solver.costOf(solved().fullScore);
    }

    public double meanCost() {
        int score = solved().fullScore;
        int pairs = Solver.sizeOf(score);
        if (pairs == 0) {
            return 0.0;
        }
        return (double) Solver.costOf(score) / pairs;
    }

    public int columnOf(int row) throws IndexOutOfBoundsException {
        requireRow(row);
        return solved().kept[row];
    }

    public int rowOf(int column) throws IndexOutOfBoundsException {
        requireColumn(column);
        int[] kept = solved().kept;
        for (int row = 0; row < MOST; row++) {
            if (kept[row] == column) {
                return row;
            }
        }
        return NONE;
    }

    public int optimalCount() {
        return solved().countOptimal();
    }

    public boolean isPossible(int row, int column) throws IndexOutOfBoundsException {
        requirePair(row, column);
        return table.isUsable(row, column) && solved().extraCostWith(row, column) == 0;
    }

    public boolean isCertain(int row, int column) throws IndexOutOfBoundsException {
        requirePair(row, column);
        return solved().extraCostWithout(row, column) != 0;
    }

    public int regret(int row, int column)
            throws IndexOutOfBoundsException, NoSuchElementException {
        requireUsable(row, column);
        return solved().extraCostWith(row, column);
    }

    public int loss(int row, int column) throws IndexOutOfBoundsException {
        requirePair(row, column);
        return solved().extraCostWithout(row, column);
    }

    public int greatestCost(int row, int column)
            throws IndexOutOfBoundsException, NoSuchElementException {
        requireUsable(row, column);
        int extraWith = solved().extraCostWith(row, column);
        if (extraWith == NONE) {
            return NO_SUCH_COST;
        }
        int extraWithout = solved().extraCostWithout(row, column);
        if (extraWithout == NONE) {
            return GREATEST_COST;
        }
        int greatest = table.cell(row, column) + extraWithout - extraWith;
        return greatest < LEAST_COST ? NO_SUCH_COST : Math.min(greatest, GREATEST_COST);
    }

    public int rank(int limit) throws IllegalArgumentException {
        if (limit < 1 || limit > MOST_RANKED) {
            throw new IllegalArgumentException("the limit is not from 1 to 30");
        }
        ranking.findFirst(solved(), limit);
        return ranking.found.count;
    }

    public int rankedCost(int index) throws IndexOutOfBoundsException {
        requireRanked(index);
        return Solver.costOf(ranking.found.scores[index]);
    }

    public int rankedColumn(int index, int row) throws IndexOutOfBoundsException {
        requireRanked(index);
        requireRow(row);
        return Ranking.columnIn(ranking.found.paths[index], row);
    }

    public int push() throws IllegalStateException {
        if (levels.count >= MOST_LEVELS) {
            throw new IllegalStateException("there are 8 levels");
        }
        levels.store(table);
        return levels.count;
    }

    public int pop() throws IllegalStateException {
        if (levels.count <= 0) {
            throw new IllegalStateException("there is no level");
        }
        levels.restore(table);
        isSolved = false;
        return levels.count;
    }

    public long digest() {
        long sum = 41;
        sum = sum * 31 + table.rows;
        sum = sum * 31 + table.columns;
        sum = sum * 31 + levels.count;
        sum = table.addTo(sum);
        return solved().addTo(sum, table.rows);
    }

    private void requireRow(int row) {
        if (row < 0 || row >= table.rows) {
            throw new IndexOutOfBoundsException("there is no such row");
        }
    }

    private void requireColumn(int column) {
        if (column < 0 || column >= table.columns) {
            throw new IndexOutOfBoundsException("there is no such column");
        }
    }

    private void requirePair(int row, int column) {
        requireRow(row);
        requireColumn(column);
    }

    private void requireUsable(int row, int column) {
        requirePair(row, column);
        if (!table.isUsable(row, column)) {
            throw new NoSuchElementException("the pair is not usable");
        }
    }

    private void requireRanked(int index) {
        if (index < 0 || index >= ranking.found.count) {
            throw new IndexOutOfBoundsException("there is no such index in the list");
        }
    }

    /** Puts a cost or FORBIDDEN for a pair and tells whether the pair was allowed before. */
    private boolean replaceCell(int row, int column, int cell) {
        boolean wasAllowed = table.cell(row, column) != FORBIDDEN;
        table.cells[row * MOST + column] = cell;
        isSolved = false;
        return wasAllowed;
    }

    private Solver solved() {
        if (!isSolved) {
            solver.solve(table);
            isSolved = true;
        }
        return solver;
    }

    private static boolean isCost(long number) {
        return number >= LEAST_COST && number <= GREATEST_COST;
    }

    private static boolean hasBit(int set, int index) {
        return (set >> index & 1) != 0;
    }

    private static int withBit(int set, int index, boolean isIn) {
        return isIn ? set | 1 << index : set & ~(1 << index);
    }

    /**
     * Rows, columns, and what is known of their pairs. Rows and columns that do not exist yet are
     * not active and their pairs are forbidden: so nobody who only asks what is usable has to know
     * how many there are.
     */
    private static final class Table {
        private final int[] cells = new int[CELLS];
        private int rows;
        private int columns;
        private int activeRows;
        private int activeColumns;

        Table() {
            Arrays.fill(cells, FORBIDDEN);
        }

        int appendRow() {
            activeRows = withBit(activeRows, rows, true);
            rows++;
            return rows - 1;
        }

        int appendColumn() {
            activeColumns = withBit(activeColumns, columns, true);
            columns++;
            return columns - 1;
        }

        /** The cost of a pair, or FORBIDDEN; for rows and columns from 0 to 9. */
        int cell(int row, int column) {
            return cells[row * MOST + column];
        }

        boolean isUsable(int row, int column) {
            return hasBit(activeRows, row) && hasBit(activeColumns, column)
                    && cell(row, column) != FORBIDDEN;
        }

        /** The set of the columns with which a row makes usable pairs. */
        int usableColumns(int row) {
            int set = 0;
            for (int column = 0; column < MOST; column++) {
                if (isUsable(row, column)) {
                    set = withBit(set, column, true);
                }
            }
            return set;
        }

        boolean canShiftRow(int row, int amount) {
            for (int column = 0; column < MOST; column++) {
                int cell = cell(row, column);
                if (cell != FORBIDDEN && !isCost((long) cell + amount)) {
                    return false;
                }
            }
            return true;
        }

        int shiftRow(int row, int amount) {
            int shifted = 0;
            for (int column = 0; column < MOST; column++) {
                if (cell(row, column) != FORBIDDEN) {
                    cells[row * MOST + column] += amount;
                    shifted++;
                }
            }
            return shifted;
        }

        boolean canStretchColumn(int column, double factor) {
            for (int row = 0; row < MOST; row++) {
                int cell = cell(row, column);
                if (cell != FORBIDDEN && !isCost(nearest(cell * factor))) {
                    return false;
                }
            }
            return true;
        }

        int stretchColumn(int column, double factor) {
            int changed = 0;
            for (int row = 0; row < MOST; row++) {
                int cell = cell(row, column);
                if (cell != FORBIDDEN && nearest(cell * factor) != cell) {
                    cells[row * MOST + column] = nearest(cell * factor);
                    changed++;
                }
            }
            return changed;
        }

        /** The nearest integer, the even one of two; for numbers within the range of int. */
        private static int nearest(double number) {
            double distance = number < 0 ? -number : number;
            int whole = (int) distance;
            double rest = distance - whole;
            if (rest > 0.5 || rest == 0.5 && (whole & 1) != 0) {
                whole++;
            }
            return number < 0 ? -whole : whole;
        }

        /** Goes on with the digest: what is active, then all pairs. */
        long addTo(long digest) {
            long sum = digest;
            for (int row = 0; row < rows; row++) {
                sum = sum * 31 + (activeRows >> row & 1);
            }
            for (int column = 0; column < columns; column++) {
                sum = sum * 31 + (activeColumns >> column & 1);
            }
            for (int row = 0; row < rows; row++) {
                for (int column = 0; column < columns; column++) {
                    sum = sum * 31 + cell(row, column);
                }
            }
            return sum;
        }
    }

    /**
     * What push has stored. The numbers of rows and columns are not among it: pop leaves them, and
     * what did not exist at the push was stored as not active and forbidden.
     */
    private static final class Levels {
        private final int[] cells = new int[MOST_LEVELS * CELLS];
        private final int[] activeRows = new int[MOST_LEVELS];
        private final int[] activeColumns = new int[MOST_LEVELS];
        private int count;

        /** Only while there are less than MOST_LEVELS levels. */
        void store(Table table) {
            System.arraycopy(table.cells, 0, cells, count * CELLS, CELLS);
            activeRows[count] = table.activeRows;
            activeColumns[count] = table.activeColumns;
            count++;
        }

        /** Only while there is a level. */
        void restore(Table table) {
            count--;
            System.arraycopy(cells, count * CELLS, table.cells, 0, CELLS);
            table.activeRows = activeRows[count];
            table.activeColumns = activeColumns[count];
        }
    }

    /**
     * Solves a table row by row, from the last row to the first, for each set of columns that the
     * rows before may have left free. All its answers are about the table as it was solved.
     *
     * An assignment's score is its cost minus PAIR_WORTH for each of its pairs. No sum of costs
     * reaches half of PAIR_WORTH: so the least scores are those of the optimal assignments, and
     * size and cost can be read from a score.
     */
    private static final class Solver {
        private static final int PAIR_WORTH = 1000000;
        /** A score that is worse than all that can be reached, also with all scores added to it. */
        private static final int HOPELESS = 100 * PAIR_WORTH;

        /** The score of each pair; it means something only for usable pairs. */
        private final int[] scores = new int[CELLS];
        /** For each row the set of the columns with which it makes usable pairs. */
        private final int[] usable = new int[MOST];
        /** The set of the active columns. */
        private int active;
        /** For each row and each set of free columns: the least score from this row on. */
        private final int[][] least = new int[MOST + 1][SETS];
        /** The same for one row, when a single pair is treated differently. */
        private final int[] supposed = new int[SETS];
        private final int[] ways = new int[SETS];
        /** The column of each row in the assignment that is kept, or NONE. */
        private final int[] kept = new int[MOST];
        private int fullScore;

        static int sizeOf(int score) {
            return (PAIR_WORTH / 2 - score) / PAIR_WORTH;
        }

        static int costOf(int score) {
            return score + sizeOf(score) * PAIR_WORTH;
        }

        void solve(Table table) {
            read(table);
            for (int row = MOST - 1; row >= 0; row--) {
                fillRow(row, usable[row], least[row + 1], least[row]);
            }
            fullScore = least[0][active];
            keepFirst();
        }

        private void read(Table table) {
            active = table.activeColumns;
            for (int row = 0; row < MOST; row++) {
                usable[row] = table.usableColumns(row);
                for (int column = 0; column < MOST; column++) {
                    scores[row * MOST + column] = table.cell(row, column) - PAIR_WORTH;
                }
            }
        }

        /**
         * Finds the least scores from a row on, out of those from the next row on. The sets go
         * down, for a set needs only itself and smaller ones of the next row: so both arrays may be
         * the same one.
         */
        private void fillRow(int row, int choice, int[] next, int[] filled) {
            for (int free = active; free >= 0; free--) {
                if (canBeLeft(free, row)) {
                    filled[free] = leastFrom(row, choice & free, next, free);
                }
            }
        }

        /** The rows before a row take a column each at most: so not every set can be left free. */
        private boolean canBeLeft(int free, int row) {
            return (free & ~active) == 0 && Integer.bitCount(active & ~free) <= row;
        }

        private int leastFrom(int row, int choice, int[] next, int free) {
            int score = next[free];
            for (int column = 0; column < MOST; column++) {
                if (hasBit(choice, column)) {
                    int rest = next[withBit(free, column, false)];
                    score = Math.min(score, scores[row * MOST + column] + rest);
                }
            }
            return score;
        }

        /** The smallest column that is still optimal, row by row: the first in the order. */
        private void keepFirst() {
            int free = active;
            for (int row = 0; row < MOST; row++) {
                int column = firstOptimal(row, free);
                kept[row] = column;
                if (column != NONE) {
                    free = withBit(free, column, false);
                }
            }
        }

        private int firstOptimal(int row, int free) {
            for (int column = 0; column < MOST; column++) {
                if (isOptimal(row, column, free)) {
                    return column;
                }
            }
            return NONE;
        }

        /** Whether a row can take a free column and reach the least score from this row on. */
        private boolean isOptimal(int row, int column, int free) {
            if (!hasBit(usable[row] & free, column)) {
                return false;
            }
            int rest = least[row + 1][withBit(free, column, false)];
            return scores[row * MOST + column] + rest == least[row][free];
        }

        int countOptimal() {
            Arrays.fill(ways, 0);
            ways[active] = 1;
            for (int row = 0; row < MOST; row++) {
                spreadWays(row);
            }
            int count = 0;
            for (int free = 0; free < SETS; free++) {
                count += ways[free];
            }
            return count;
        }

        /**
         * Makes the numbers of ways to each set of free columns before a row those behind the row.
         * The sets go up, for a set adds only to smaller ones, and these are through already.
         */
        private void spreadWays(int row) {
            for (int free = 0; free <= active; free++) {
                int count = ways[free];
                if (count != 0) {
                    ways[free] = least[row + 1][free] == least[row][free] ? count : 0;
                    for (int column = 0; column < MOST; column++) {
                        if (isOptimal(row, column, free)) {
                            ways[withBit(free, column, false)] += count;
                        }
                    }
                }
            }
        }

        /** What full assignments with a usable pair cost more at least; NONE if there are none. */
        int extraCostWith(int row, int column) {
            for (int free = active; free >= 0; free--) {
                supposed[free] = HOPELESS;
                if (canBeLeft(free, row) && hasBit(free, column)) {
                    int rest = least[row + 1][withBit(free, column, false)];
                    supposed[free] = scores[row * MOST + column] + rest;
                }
            }
            return extraCostOfSupposed(row);
        }

        /**
         * What full assignments without a pair cost more at least; NONE if there are none. The pair
         * need not be usable.
         */
        int extraCostWithout(int row, int column) {
            fillRow(row, withBit(usable[row], column, false), least[row + 1], supposed);
            return extraCostOfSupposed(row);
        }

        /** Goes on from what is supposed for a row to the first row. */
        private int extraCostOfSupposed(int supposedRow) {
            for (int row = supposedRow - 1; row >= 0; row--) {
                fillRow(row, usable[row], supposed, supposed);
            }
            int score = supposed[active];
            return sizeOf(score) == sizeOf(fullScore) ? score - fullScore : NONE;
        }

        /** Goes on with the digest: size, total, and what is kept for so many rows. */
        long addTo(long digest, int rows) {
            long sum = digest * 31 + sizeOf(fullScore);
            sum = sum * 31 + costOf(fullScore);
            for (int row = 0; row < rows && row < MOST; row++) {
                sum = sum * 31 + kept[row];
            }
            return sum;
        }
    }

    /**
     * Finds the first full assignments row by row: it keeps only the best beginnings, as many as
     * assignments are asked for. The solver tells what each beginning comes to at best: so a
     * beginning that is left out has enough others before it, with an assignment each that comes
     * before all of its own.
     */
    private static final class Ranking {
        /** A path holds four bits for each row; these stand for no column, behind all columns. */
        private static final int NO_COLUMN = 15;
        private static final int BITS = 4;

        private Beginnings found = new Beginnings();
        private Beginnings longer = new Beginnings();

        static int columnIn(long path, int row) {
            int column = (int) (path >> BITS * (MOST - 1 - row)) & NO_COLUMN;
            return column == NO_COLUMN ? NONE : column;
        }

        void findFirst(Solver solver, int limit) {
            found.count = 0;
            found.offer(solver.fullScore, 0, 0, solver.active, limit);
            for (int row = 0; row < MOST; row++) {
                longer.count = 0;
                for (int index = 0; index < found.count; index++) {
                    extend(solver, row, index, limit);
                }
                Beginnings shorter = found;
                found = longer;
                longer = shorter;
            }
        }

        /** Offers all beginnings that are one of those found and a choice for the next row. */
        private void extend(Solver solver, int row, int index, int limit) {
            long path = found.paths[index] << BITS;
            int past = found.pasts[index];
            int free = found.frees[index];
            offerFull(solver, row, path + NO_COLUMN, past, free, limit);
            for (int column = 0; column < MOST; column++) {
                if (hasBit(solver.usable[row] & free, column)) {
                    int longerPast = past + solver.scores[row * MOST + column];
                    int rest = withBit(free, column, false);
                    offerFull(solver, row, path + column, longerPast, rest, limit);
                }
            }
        }

        /** Offers a beginning up to a row if it leads to full assignments. */
        private void offerFull(Solver solver, int row, long path, int past, int free, int limit) {
            int score = past + solver.least[row + 1][free];
            if (Solver.sizeOf(score) == Solver.sizeOf(solver.fullScore)) {
                longer.offer(score, path, past, free, limit);
            }
        }
    }

    /** Beginnings of assignments, all up to the same row, the best first. */
    private static final class Beginnings {
        /** The score of the best assignment that begins so. */
        private final int[] scores = new int[MOST_RANKED];
        private final long[] paths = new long[MOST_RANKED];
        /** The score of the beginning alone. */
        private final int[] pasts = new int[MOST_RANKED];
        /** The set of the columns that it leaves free. */
        private final int[] frees = new int[MOST_RANKED];
        private int count;

        /** Takes a beginning to its place among the best; the limit is from 1 to MOST_RANKED. */
        void offer(int score, long path, int past, int free, int limit) {
            if (count >= limit) {
                if (!isBefore(score, path, limit - 1)) {
                    return;
                }
                count = limit - 1;
            }
            int place = count;
            while (place > 0 && isBefore(score, path, place - 1)) {
                moveBack(place - 1);
                place--;
            }
            scores[place] = score;
            paths[place] = path;
            pasts[place] = past;
            frees[place] = free;
            count++;
        }

        private boolean isBefore(int score, long path, int index) {
            return score < scores[index] || score == scores[index] && path < paths[index];
        }

        private void moveBack(int index) {
            scores[index + 1] = scores[index];
            paths[index + 1] = paths[index];
            pasts[index + 1] = pasts[index];
            frees[index + 1] = frees[index];
        }
    }
}
