import java.io.File;
import java.io.IOException;
import java.nio.file.Files;
import java.nio.file.Path;
import java.util.ArrayList;
import java.util.List;
import java.util.Set;
import java.util.TreeSet;
import java.util.regex.Matcher;
import java.util.regex.Pattern;
import java.util.stream.Stream;
import javax.tools.JavaCompiler;
import javax.tools.ToolProvider;

/** What README.md says of the class and of its tests must be what they are. */
public final class ReadmeTest {
    private static final Pattern EXAMPLE = Pattern.compile("(?s)```java\n(.*?)```");
    /** A call, perhaps with a variable for its answer, and the answer, perhaps with a remark. */
    private static final Pattern LINE = Pattern.compile(
            "(?:int (\\w+) = )?(desk\\.\\w+\\(.*\\)); *// (throws )?([^:]+)(: .*)?");
    private static final Pattern CALL = Pattern.compile("(?m)^\\| `(\\w+ \\w+\\([^`]*\\))` \\|.*$");
    private static final Pattern THROWN = Pattern.compile("`(\\w+Exception)`");
    private static final Pattern TEST = Pattern.compile("`(\\w+Test)`");

    private static List<String> groups(Pattern pattern, String text) {
        List<String> groups = new ArrayList<>();
        Matcher matcher = pattern.matcher(text);
        while (matcher.find()) {
            groups.add(matcher.group(1));
        }
        return groups;
    }

    /** The line of a test that makes the call of an example and compares what stands behind it. */
    private static String testOf(String line) {
        Matcher matcher = LINE.matcher(line);
        if (!matcher.matches()) {
            boolean needsNoAnswer = line.isBlank()
                    || line.equals("AssignmentDesk desk = new AssignmentDesk();");
            Check.same("README.md tells an answer: " + line, needsNoAnswer, true);
            return line;
        }
        String variable = matcher.group(1);
        String call = matcher.group(2);
        String due = matcher.group(4);
        if (matcher.group(3) != null) {
            return "Check.fails(\"" + call + "\", " + due + ".class, () -> " + call + ");";
        }
        if (variable != null) {
            return "int " + variable + " = " + call + "; Check.same(\"" + call + "\", "
                    + variable + ", " + due + ");";
        }
        return "Check.same(\"" + call + "\", " + call + ", " + due + ");";
    }

    private static String classOf(String name, String example) {
        StringBuilder source = new StringBuilder("import java.util.NoSuchElementException;\n");
        source.append("public final class ").append(name).append(" implements Runnable {\n");
        source.append("public void run() {\n");
        for (String line : example.split("\n")) {
            source.append(testOf(line)).append('\n');
        }
        return source.append("}\n}\n").toString();
    }

    /** Compiled to where the test itself stands, for only there it finds Check. */
    private static void run(String name, String example)
            throws IOException, ReflectiveOperationException {
        String classes = System.getProperty("java.class.path").split(File.pathSeparator)[0];
        Path file = Path.of(classes, name + ".java");
        Files.writeString(file, classOf(name, example));
        JavaCompiler compiler = ToolProvider.getSystemJavaCompiler();
        int result = compiler.run(null, System.out, System.out, "-cp", classes, "-d", classes,
                file.toString());
        Check.same("the compiler's result for " + name, result, 0);
        if (result == 0) {
            Class<?> compiled = Class.forName(name);
            ((Runnable) compiled.getConstructor().newInstance()).run();
        }
    }

    private static void examples(String readme) throws IOException, ReflectiveOperationException {
        List<String> examples = groups(EXAMPLE, readme);
        Check.same("the number of examples", examples.size(), 2);
        for (int k = 0; k < examples.size(); k++) {
            run("ReadmeExample" + k, examples.get(k));
        }
    }

    private static void calls(String readme) {
        List<String> due = new ArrayList<>();
        for (String method : Face.METHODS) {
            due.add(Face.signatureOf(method) + " throws " + Face.thrownBy(method));
        }
        List<String> told = new ArrayList<>();
        Matcher matcher = CALL.matcher(readme);
        while (matcher.find()) {
            told.add(matcher.group(1) + " throws " + groups(THROWN, matcher.group()));
        }
        Check.same("the calls", told, due);
    }

    private static void tests(String readme) throws IOException {
        Set<String> due = new TreeSet<>();
        try (Stream<Path> files = Files.list(Path.of("src/test/java"))) {
            files.forEach(file -> due.add(file.getFileName().toString().replace(".java", "")));
        }
        Set<String> told = new TreeSet<>();
        for (String line : readme.split("\n")) {
            if (line.startsWith("| `")) {
                told.addAll(groups(TEST, line));
            }
        }
        Check.same("the tests", told, due);
    }

    public static void main(String[] args) throws IOException, ReflectiveOperationException {
        String readme = Files.readString(Path.of("README.md"));
        examples(readme);
        calls(readme);
        tests(readme);
        Check.end();
    }
}
