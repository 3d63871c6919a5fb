import java.io.IOException;
import java.lang.reflect.Constructor;
import java.lang.reflect.Field;
import java.lang.reflect.Method;
import java.lang.reflect.Modifier;
import java.nio.file.Files;
import java.nio.file.Path;
import java.util.Arrays;
import java.util.Set;
import java.util.TreeSet;
import java.util.regex.Matcher;
import java.util.regex.Pattern;

/** The face is the document's and no more; the file keeps to the rules that can be looked up. */
public final class FaceTest {
    private static final Path SOURCE = Path.of("src/main/java/AssignmentDesk.java");
    private static final String BOUNDS = " throws IndexOutOfBoundsException";
    private static final String STATE = " throws IllegalStateException";
    private static final String ARGUMENT = "IllegalArgumentException";
    private static final String ARITHMETIC = "ArithmeticException";
    private static final String ELEMENT = "NoSuchElementException";
    private static final String[] METHODS = {
        "int addRow()" + STATE,
        "int addColumn()" + STATE,
        "boolean setRow(int, boolean)" + BOUNDS,
        "boolean setColumn(int, boolean)" + BOUNDS,
        "boolean setCost(int, int, int)" + BOUNDS + " " + ARGUMENT,
        "boolean forbid(int, int)" + BOUNDS,
        "int addToRow(int, int)" + BOUNDS + " " + ARITHMETIC,
        "int scaleColumn(int, double)" + BOUNDS + " " + ARGUMENT + " " + ARITHMETIC,
        "int rowCount()",
        "int columnCount()",
        "boolean isAllowed(int, int)" + BOUNDS,
        "int cost(int, int)" + BOUNDS + " " + ELEMENT,
        "int size()",
        "int total()",
        "double meanCost()",
        "int columnOf(int)" + BOUNDS,
        "int rowOf(int)" + BOUNDS,
        "int optimalCount()",
        "boolean isPossible(int, int)" + BOUNDS,
        "boolean isCertain(int, int)" + BOUNDS,
        "int regret(int, int)" + BOUNDS + " " + ELEMENT,
        "int loss(int, int)" + BOUNDS,
        "int greatestCost(int, int)" + BOUNDS + " " + ELEMENT,
        "int rank(int) throws " + ARGUMENT,
        "int rankedCost(int)" + BOUNDS,
        "int rankedColumn(int, int)" + BOUNDS,
        "int push()" + STATE,
        "int pop()" + STATE,
        "long digest()"};
    /** What LANGUAGE.md rules out, as far as a word shows it. */
    private static final String[] RULED_OUT = {"->", "::", "\\bsynchronized\\b", "\\bassert\\b",
        "\\bfinally\\b", "\\bcatch\\b", "Exact\\b", "\\bpackage\\b", "\\bMath\\.(?!min|max|abs)",
        "\\bSystem\\.(?!arraycopy)", "\\bThread\\b", "\\bprotected\\b", "\\bvolatile\\b",
        "\\binstanceof\\b", "\\bnull\\b", "\\bwhile\\s*\\(true\\)", "\\bfor\\s*\\(;;\\)",
        "\\bhashCode\\b", "\\bequals\\b", "\\btoString\\b"};
    private static final Set<String> IMPORTS = Set.of("import java.util.Arrays;",
            "import java.util.NoSuchElementException;");

    private static String described(Method method) {
        StringBuilder text = new StringBuilder();
        text.append(method.getReturnType().getSimpleName()).append(' ').append(method.getName());
        text.append('(');
        String gap = "";
        for (Class<?> type : method.getParameterTypes()) {
            text.append(gap).append(type.getSimpleName());
            gap = ", ";
        }
        text.append(')');
        gap = " throws ";
        for (Class<?> type : method.getExceptionTypes()) {
            text.append(gap).append(type.getSimpleName());
            gap = " ";
        }
        return text.toString();
    }

    private static boolean isPrivate(int modifiers) {
        return Modifier.isPrivate(modifiers);
    }

    private static void face() {
        Class<?> desk = AssignmentDesk.class;
        Check.same("the class is public and final", desk.getModifiers(),
                Modifier.PUBLIC | Modifier.FINAL);
        Set<String> publicMethods = new TreeSet<>();
        Set<String> publicNames = new TreeSet<>();
        for (Method method : desk.getDeclaredMethods()) {
            if (!isPrivate(method.getModifiers())) {
                Check.same(method + " is public", method.getModifiers(), Modifier.PUBLIC);
                publicMethods.add(described(method));
                publicNames.add(method.getName());
            }
        }
        Check.same("public methods", publicMethods, new TreeSet<>(Arrays.asList(METHODS)));
        Constructor<?>[] constructors = desk.getDeclaredConstructors();
        Check.same("constructors", constructors.length, 1);
        Check.same("parameters of the constructor", constructors[0].getParameterCount(), 0);
        Check.same("the constructor is public", constructors[0].getModifiers(), Modifier.PUBLIC);
        privateNames(desk, publicNames);
        for (Class<?> inside : desk.getDeclaredClasses()) {
            privateNames(inside, publicNames);
            Check.same(inside + " is static", Modifier.isStatic(inside.getModifiers()), true);
            Check.same(inside + " is not public", Modifier.isPublic(inside.getModifiers()), false);
        }
    }

    private static void privateNames(Class<?> type, Set<String> publicNames) {
        for (Method method : type.getDeclaredMethods()) {
            boolean isFace = Modifier.isPublic(method.getModifiers());
            Check.same("the name of " + method + " is one of the face",
                    !isFace && publicNames.contains(method.getName()), false);
            Check.same("parameters of " + method, method.getParameterCount() <= 7, true);
        }
        int fields = 0;
        for (Field field : type.getDeclaredFields()) {
            int modifiers = field.getModifiers();
            Check.same(field + " is private", isPrivate(modifiers), true);
            if (Modifier.isStatic(modifiers)) {
                Check.same(field + " is final", Modifier.isFinal(modifiers), true);
            } else {
                fields++;
            }
        }
        Check.same("fields of " + type, fields <= 20, true);
    }

    private static String withoutComments(String source) {
        return source.replaceAll("(?s)/\\*.*?\\*/", " ").replaceAll("//[^\n]*", " ");
    }

    private static void rules() throws IOException {
        String source = withoutComments(Files.readString(SOURCE));
        for (String pattern : RULED_OUT) {
            Matcher matcher = Pattern.compile(pattern).matcher(source);
            Check.same("the file has " + pattern, matcher.find(), false);
        }
        for (String line : source.split("\n")) {
            if (line.startsWith("import")) {
                Check.same(line, IMPORTS.contains(line.trim()), true);
            }
            if (line.contains("throw ")) {
                boolean isPlain = line.trim().matches("throw new \\w+\\(\"[^\"]*\"\\);");
                Check.same(line.trim(), isPlain, true);
            }
        }
    }

    public static void main(String[] args) throws IOException {
        face();
        rules();
        Check.end();
    }
}
