import java.io.IOException;
import java.lang.reflect.Constructor;
import java.lang.reflect.Field;
import java.lang.reflect.Method;
import java.lang.reflect.Modifier;
import java.nio.file.Files;
import java.nio.file.Path;
import java.util.ArrayList;
import java.util.List;
import java.util.Set;
import java.util.TreeSet;
import java.util.regex.Matcher;
import java.util.regex.Pattern;
import java.util.stream.Stream;

/** The face is the document's and no more; the file keeps to the rules that can be looked up. */
public final class FaceTest {
    private static final Path SOURCE = Path.of("src/main/java/AssignmentDesk.java");
    /** What LANGUAGE.md rules out, as far as a word shows it; the number is the rule's. */
    private static final String[] RULED_OUT = {
        "2 a lambda: (?m)^(?!\\s*(case\\b|default\\b)).*->",
        "2 a method reference: ::",
        "3 floating Math: \\bMath\\.(sqrt|cbrt|pow|exp|log|log10|hypot|fma|ulp|copySign)\\s*\\(",
        "3 floating Math: \\bMath\\.(floor|ceil|random|round|rint|signum|next\\w*)\\s*\\(",
        "3 floating Math: \\bMath\\.(a?(sin|cos|tan)\\w*|to(Radians|Degrees))\\s*\\(",
        "3 floating Math: \\b(Double|Float|StrictMath)\\.",
        "4 Exact: Exact\\b",
        "4 System: \\bSystem\\.(?!arraycopy\\b)",
        "5 a static block: \\bstatic\\s*\\{",
        "6 finally and others: \\b(finally|synchronized|assert|volatile|native)\\b",
        "6 exceptions of its own: \\bextends\\s+\\w*(Exception|Throwable|Error)\\b",
        "6 resources: \\btry\\s*\\(",
        "9 a loop without an end: \\bfor\\s*\\(\\s*;\\s*;",
        "12 identity: \\b(hashCode|identityHashCode)\\b",
        "13 the world: \\b(Thread|Runtime|Random|ProcessHandle|Scanner|Files|Clock|Instant)\\b"};
    private static final Set<String> THROWN = Set.of("IllegalStateException",
            "IllegalArgumentException", "IndexOutOfBoundsException", "ArithmeticException",
            "UnsupportedOperationException", "NoSuchElementException", "RuntimeException");
    /** What the machine itself throws, and what is above it: never to be caught as an answer. */
    private static final Set<String> NEVER_CAUGHT = Set.of("ArrayIndexOutOfBoundsException",
            "NullPointerException", "ClassCastException", "NegativeArraySizeException",
            "ArrayStoreException", "RuntimeException", "Exception", "Throwable", "Error",
            "StackOverflowError", "OutOfMemoryError");
    private static final Set<String> IMPORTS = Set.of("java.util.Arrays", "java.util.ArrayList",
            "java.util.List", "java.util.Iterator", "java.util.NoSuchElementException");
    private static final int MOST_CLASSES = 12;
    private static final int MOST_FIELDS = 20;
    private static final int MOST_PARAMETERS = 7;

    /** A method as the face has it, without the names, which a class file does not keep. */
    private static String described(Method method) {
        List<String> types = new ArrayList<>();
        for (Class<?> type : method.getParameterTypes()) {
            types.add(type.getSimpleName());
        }
        List<String> thrown = new ArrayList<>();
        for (Class<?> type : method.getExceptionTypes()) {
            thrown.add(type.getSimpleName());
        }
        return method.getReturnType().getSimpleName() + " " + method.getName() + "("
                + String.join(", ", types) + ") throws " + thrown;
    }

    private static Set<String> dueMethods() {
        Set<String> due = new TreeSet<>();
        for (String method : Face.METHODS) {
            String signature = Face.withoutNames(Face.signatureOf(method));
            due.add(signature + " throws " + Face.thrownBy(method));
        }
        return due;
    }

    private static void face() {
        Class<?> desk = AssignmentDesk.class;
        Check.same("the class is public and final", desk.getModifiers(),
                Modifier.PUBLIC | Modifier.FINAL);
        Set<String> publicMethods = new TreeSet<>();
        Set<String> publicNames = new TreeSet<>();
        for (Method method : desk.getDeclaredMethods()) {
            boolean isPrivate = Modifier.isPrivate(method.getModifiers());
            if (!isPrivate && !method.isSynthetic()) {
                Check.same(method + " is public", method.getModifiers(), Modifier.PUBLIC);
                publicMethods.add(described(method));
                publicNames.add(method.getName());
            }
        }
        Check.same("public methods", publicMethods, dueMethods());
        constructor(desk);
        for (Method method : desk.getDeclaredMethods()) {
            boolean isPrivate = Modifier.isPrivate(method.getModifiers());
            Check.same("the name of " + method + " is one of the face",
                    isPrivate && publicNames.contains(method.getName()), false);
        }
        for (Field field : desk.getDeclaredFields()) {
            Check.same(field + " is private", Modifier.isPrivate(field.getModifiers()), true);
        }
    }

    private static void constructor(Class<?> desk) {
        Constructor<?>[] constructors = desk.getDeclaredConstructors();
        Check.same("constructors", constructors.length, 1);
        Check.same("parameters of the constructor", constructors[0].getParameterCount(), 0);
        Check.same("the constructor is public", constructors[0].getModifiers(), Modifier.PUBLIC);
    }

    /** "The public face" with the names of the parameters too: only the source has them. */
    private static void printedFace() throws IOException {
        String source = withoutComments(Files.readString(SOURCE)).replaceAll("\\s+", " ");
        for (String method : Face.METHODS) {
            String due = "public " + method.replace("java.util.", "") + " {";
            Check.same("the source has " + due, source.contains(due), true);
        }
    }

    private static void oneFile() throws IOException {
        try (Stream<Path> files = Files.walk(Path.of("src/main"))) {
            List<Path> found = files.filter(Files::isRegularFile).toList();
            Check.same("the program is one file", found, List.of(SOURCE));
        }
    }

    private static List<Class<?>> withAllInside(Class<?> type) {
        List<Class<?>> classes = new ArrayList<>();
        classes.add(type);
        for (Class<?> inside : type.getDeclaredClasses()) {
            int modifiers = inside.getModifiers();
            boolean isHidden = !Modifier.isPublic(modifiers) && !Modifier.isProtected(modifiers);
            Check.same(inside + " is private or package-visible", isHidden, true);
            classes.addAll(withAllInside(inside));
        }
        return classes;
    }

    private static void shape() {
        List<Class<?>> classes = withAllInside(AssignmentDesk.class);
        Check.same("no more than some twelve classes", classes.size() <= MOST_CLASSES, true);
        for (Class<?> type : classes) {
            int fields = 0;
            for (Field field : type.getDeclaredFields()) {
                int modifiers = field.getModifiers();
                if (!Modifier.isStatic(modifiers)) {
                    fields++;
                } else {
                    Check.same(field + " is final", Modifier.isFinal(modifiers), true);
                }
            }
            Check.same("no more than some twenty fields: " + type, fields <= MOST_FIELDS, true);
            for (Method method : type.getDeclaredMethods()) {
                Check.same("no more than seven parameters: " + method,
                        method.getParameterCount() <= MOST_PARAMETERS, true);
            }
        }
    }

    private static String withoutComments(String source) {
        return source.replaceAll("(?s)/\\*.*?\\*/", " ").replaceAll("//[^\n]*", " ");
    }

    private static void rules() throws IOException {
        String source = withoutComments(Files.readString(SOURCE));
        Check.same("1 no package line", Pattern.compile("(?m)^\\s*package\\b").matcher(source)
                .find(), false);
        for (String rule : RULED_OUT) {
            int colon = rule.indexOf(": ");
            Matcher matcher = Pattern.compile(rule.substring(colon + 2)).matcher(source);
            Check.same("rule " + rule.substring(0, colon), matcher.find(), false);
        }
        Matcher imports = Pattern.compile("(?m)^\\s*import\\s+([^;]*);").matcher(source);
        while (imports.find()) {
            Check.same("4 import " + imports.group(1), IMPORTS.contains(imports.group(1)), true);
        }
        exceptions(source);
    }

    private static void exceptions(String source) {
        Pattern plain = Pattern.compile(
                "throw\\s+new\\s+(\\w+)\\s*\\(\\s*(\"[^\"]*\")?\\s*\\)\\s*;");
        Matcher thrown = Pattern.compile("\\bthrow\\b[^;]*;").matcher(source);
        while (thrown.find()) {
            Matcher matcher = plain.matcher(thrown.group());
            boolean isPlain = matcher.matches() && THROWN.contains(matcher.group(1));
            Check.same("6 " + thrown.group(), isPlain, true);
        }
        Matcher caught = Pattern.compile("\\bcatch\\s*\\(([^)]*)\\)").matcher(source);
        while (caught.find()) {
            for (String name : caught.group(1).split("\\W+")) {
                Check.same("catches " + name, NEVER_CAUGHT.contains(name), false);
            }
        }
    }

    public static void main(String[] args) throws IOException {
        face();
        printedFace();
        oneFile();
        shape();
        rules();
        Check.end();
    }
}
