import java.util.ArrayList;
import java.util.List;

/**
 * All that a desk can be asked, in groups: each is small enough for the 512 calls of one object,
 * also behind the calls that made it. Some groups change the desk: so each wants a desk of its own.
 */
final class Answers {
    private static final int ROWS = 11;
    private static final int LISTED = 31;
    private static final int LISTED_AT_ONCE = 8;
    private static final int LIST_GROUPS = (LISTED + LISTED_AT_ONCE - 1) / LISTED_AT_ONCE;
    static final int GROUPS = 4 + ROWS + LIST_GROUPS;

    private final AssignmentDesk desk;
    private final List<String> answers = new ArrayList<>();

    private Answers(AssignmentDesk desk) {
        this.desk = desk;
    }

    static List<String> of(AssignmentDesk desk, int group) {
        Answers asked = new Answers(desk);
        if (group < ROWS) {
            asked.askPairs(group);
        } else if (group < ROWS + LIST_GROUPS) {
            asked.askList((group - ROWS) * LISTED_AT_ONCE);
        } else {
            asked.askRest(group - ROWS - LIST_GROUPS);
        }
        return asked.answers;
    }

    private void askRest(int group) {
        switch (group) {
            case 0:
                askWhole();
                break;
            case 1:
                askWhatIsActive();
                break;
            case 2:
                askLevels();
                break;
            default:
                askForRoom();
                break;
        }
    }

    private void ask(String call, Check.Call question) {
        answers.add(call + " = " + Check.answerOf(question));
    }

    private void askPairs(int row) {
        for (int column = 0; column <= desk.columnCount(); column++) {
            int asked = column;
            String pair = "(" + row + ", " + column + ")";
            ask("isAllowed" + pair, () -> desk.isAllowed(row, asked));
            ask("cost" + pair, () -> desk.cost(row, asked));
            ask("isPossible" + pair, () -> desk.isPossible(row, asked));
            ask("isCertain" + pair, () -> desk.isCertain(row, asked));
            ask("regret" + pair, () -> desk.regret(row, asked));
            ask("loss" + pair, () -> desk.loss(row, asked));
            ask("greatestCost" + pair, () -> desk.greatestCost(row, asked));
        }
    }

    private void askList(int from) {
        for (int index = from; index < from + LISTED_AT_ONCE; index++) {
            int asked = index;
            ask("rankedCost(" + index + ")", () -> desk.rankedCost(asked));
            for (int row = 0; row <= desk.rowCount(); row++) {
                int askedRow = row;
                ask("rankedColumn(" + index + ", " + row + ")",
                        () -> desk.rankedColumn(asked, askedRow));
            }
        }
    }

    private void askWhole() {
        ask("rowCount()", desk::rowCount);
        ask("columnCount()", desk::columnCount);
        ask("size()", desk::size);
        ask("total()", desk::total);
        ask("meanCost()", desk::meanCost);
        ask("optimalCount()", desk::optimalCount);
        ask("digest()", desk::digest);
        for (int k = 0; k < ROWS; k++) {
            int asked = k;
            ask("columnOf(" + k + ")", () -> desk.columnOf(asked));
            ask("rowOf(" + k + ")", () -> desk.rowOf(asked));
        }
        ask("rank(30)", () -> desk.rank(30));
        ask("rankedCost(0)", () -> desk.rankedCost(0));
        ask("rankedColumn(0, 0)", () -> desk.rankedColumn(0, 0));
    }

    private void askWhatIsActive() {
        for (int k = 0; k < ROWS; k++) {
            int asked = k;
            ask("setRow(" + k + ", true)", () -> desk.setRow(asked, true));
            ask("setColumn(" + k + ", true)", () -> desk.setColumn(asked, true));
        }
        ask("digest() with all active", desk::digest);
    }

    private void askLevels() {
        for (int level = 0; level < 9; level++) {
            ask("pop()", desk::pop);
            ask("digest() after pop", desk::digest);
        }
        for (int level = 0; level < 9; level++) {
            ask("push()", desk::push);
        }
    }

    private void askForRoom() {
        for (int k = 0; k < ROWS; k++) {
            ask("addRow()", desk::addRow);
            ask("addColumn()", desk::addColumn);
        }
        ask("digest() with all rows and columns", desk::digest);
    }
}
