import java.util.ArrayList;
import java.util.List;

/** The public face, line by line as the document prints it. */
final class Face {
    static final String[] METHODS = {
        "int addRow() throws IllegalStateException",
        "int addColumn() throws IllegalStateException",
        "boolean setRow(int row, boolean isActive) throws IndexOutOfBoundsException",
        "boolean setColumn(int column, boolean isActive) throws IndexOutOfBoundsException",
        "boolean setCost(int row, int column, int cost)"
            + " throws IndexOutOfBoundsException, IllegalArgumentException",
        "boolean forbid(int row, int column) throws IndexOutOfBoundsException",
        "int addToRow(int row, int amount) throws IndexOutOfBoundsException, ArithmeticException",
        "int scaleColumn(int column, double factor)"
            + " throws IndexOutOfBoundsException, IllegalArgumentException, ArithmeticException",
        "int rowCount()",
        "int columnCount()",
        "boolean isAllowed(int row, int column) throws IndexOutOfBoundsException",
        "int cost(int row, int column)"
            + " throws IndexOutOfBoundsException, java.util.NoSuchElementException",
        "int size()",
        "int total()",
        "double meanCost()",
        "int columnOf(int row) throws IndexOutOfBoundsException",
        "int rowOf(int column) throws IndexOutOfBoundsException",
        "int optimalCount()",
        "boolean isPossible(int row, int column) throws IndexOutOfBoundsException",
        "boolean isCertain(int row, int column) throws IndexOutOfBoundsException",
        "int regret(int row, int column)"
            + " throws IndexOutOfBoundsException, java.util.NoSuchElementException",
        "int loss(int row, int column) throws IndexOutOfBoundsException",
        "int greatestCost(int row, int column)"
            + " throws IndexOutOfBoundsException, java.util.NoSuchElementException",
        "int rank(int limit) throws IllegalArgumentException",
        "int rankedCost(int index) throws IndexOutOfBoundsException",
        "int rankedColumn(int index, int row) throws IndexOutOfBoundsException",
        "int push() throws IllegalStateException",
        "int pop() throws IllegalStateException",
        "long digest()"};
    private static final String THROWS = " throws ";

    private Face() {
    }

    /** A method without what it throws: types and names. */
    static String signatureOf(String method) {
        int end = method.indexOf(THROWS);
        return end < 0 ? method : method.substring(0, end);
    }

    /** What a method throws, in the order in which the document names it, without packages. */
    static List<String> thrownBy(String method) {
        List<String> names = new ArrayList<>();
        int start = method.indexOf(THROWS);
        if (start >= 0) {
            for (String name : method.substring(start + THROWS.length()).split(", ")) {
                names.add(name.substring(name.lastIndexOf('.') + 1));
            }
        }
        return names;
    }

    static String withoutNames(String signature) {
        return signature.replaceAll("(\\w+) \\w+(?=[,)])", "$1");
    }
}
