import java.io.IOException;
import java.lang.reflect.InvocationTargetException;
import java.lang.reflect.Method;
import java.nio.file.Files;
import java.nio.file.Path;
import java.util.ArrayList;
import java.util.List;
import java.util.Set;
import java.util.TreeSet;
import java.util.regex.Matcher;
import java.util.regex.Pattern;

/** README.md says what holds: its example answers what it tells, its tables tell the document's face. */
public final class RiddlePostReadmeTest {
    private static final Path README = Path.of("README.md");
    private static final Path DOCUMENT = Path.of("..", "shared", "DOC.md");
    private static final Pattern CALL = Pattern.compile("post\\.(\\w+)\\(([^)]*)\\); +// (?:throws )?([^:\\s]+).*");
    private static final Pattern ROW = Pattern.compile("\\| `((?:int|long|double|boolean) \\w+\\([^)]*\\))` \\|.*\\|");
    private static final Pattern FACE = Pattern.compile("    public (\\w+ \\w+\\([^)]*\\))(?: throws ([\\w, ]+))?;");
    private static final Pattern EXCEPTION = Pattern.compile("`(\\w+Exception)`");
    private static final Pattern CONSTANT = Pattern.compile("([A-Z_]+ = -?[0-9]+)[,;]");
    private static final Check CHECK = new Check();

    private RiddlePostReadmeTest() {
    }

    public static void main(String[] args) throws IOException {
        List<String> readme = Files.readAllLines(README);
        theExample(readme);
        if (Files.isReadable(DOCUMENT)) {
            List<String> document = Files.readAllLines(DOCUMENT);
            theMethods(readme, document);
            theConstants(readme, document);
        } else {
            System.out.println(DOCUMENT + " is not here: the tables are not compared with it");
        }
        theRest(String.join("\n", readme));
        CHECK.end("RiddlePostReadmeTest");
    }

    // ---- the example

    private static void theExample(List<String> readme) {
        RiddlePost post = new RiddlePost();
        int calls = 0;
        for (String line : readme) {
            Matcher call = CALL.matcher(line);
            if (call.matches()) {
                CHECK.sameText(line, answer(post, call.group(1), call.group(2)), call.group(3));
                calls++;
            } else {
                CHECK.same("is a call without its answer: " + line, line.startsWith("post."), false);
            }
        }
        CHECK.same("the example has calls", calls > 0, true);
    }

    private static String answer(RiddlePost post, String name, String written) {
        Object[] numbers = numbers(written);
        Class<?>[] types = new Class<?>[numbers.length];
        java.util.Arrays.fill(types, int.class);
        try {
            Method method = RiddlePost.class.getMethod(name, types);
            return String.valueOf(method.invoke(post, numbers));
        } catch (InvocationTargetException thrown) {
            return thrown.getCause().getClass().getSimpleName();
        } catch (ReflectiveOperationException none) {
            return "no such method";
        }
    }

    private static Object[] numbers(String written) {
        if (written.isEmpty()) {
            return new Object[0];
        }
        if (written.startsWith("'")) {
            return new Object[] {(int) written.charAt(1)};
        }
        List<Object> numbers = new ArrayList<>();
        for (String number : written.split(", ")) {
            numbers.add(Integer.valueOf(number));
        }
        return numbers.toArray();
    }

    // ---- the tables

    private static void theMethods(List<String> readme, List<String> document) {
        List<String> got = new ArrayList<>();
        for (String line : readme) {
            Matcher row = ROW.matcher(line);
            if (row.matches()) {
                got.add(row.group(1) + " throws " + exceptionsOf(line));
            }
        }
        List<String> due = new ArrayList<>();
        for (String line : document) {
            Matcher method = FACE.matcher(line);
            if (method.matches() && !method.group(1).startsWith("static")) {
                due.add(method.group(1) + " throws " + (method.group(2) == null ? "nothing" : method.group(2)));
            }
        }
        CHECK.same("the document has methods", due.isEmpty(), false);
        CHECK.sameText("the methods of the tables", String.join("\n", got), String.join("\n", due));
    }

    private static String exceptionsOf(String row) {
        List<String> exceptions = new ArrayList<>();
        Matcher exception = EXCEPTION.matcher(row);
        while (exception.find()) {
            exceptions.add(exception.group(1));
        }
        if (exceptions.isEmpty()) {
            return row.endsWith("| nothing |") ? "nothing" : "not told";
        }
        return String.join(", ", exceptions);
    }

    private static void theConstants(List<String> readme, List<String> document) {
        Set<String> due = new TreeSet<>();
        for (String line : document) {
            Matcher constant = CONSTANT.matcher(line);
            while (line.startsWith("    public static final int ") && constant.find()) {
                due.add(constant.group(1));
            }
        }
        Set<String> got = new TreeSet<>();
        for (String line : readme) {
            if (line.matches("\\| `[A-Z_]+ = -?[0-9]+` \\|.*")) {
                got.add(line.substring(3, line.indexOf('`', 3)));
            }
        }
        CHECK.same("the document has constants", due.isEmpty(), false);
        CHECK.sameText("the constants of the table", got.toString(), due.toString());
    }

    // ---- what else it tells

    private static void theRest(String readme) throws IOException {
        CHECK.same("it tells the number of calls", readme.contains("at most 512 calls"), true);
        CHECK.same("it tells how to run the tests", readme.contains("    .ci/run\n"), true);
        try (java.util.stream.Stream<Path> files = Files.list(Path.of("src", "test", "java"))) {
            for (Path file : files.toList()) {
                String name = file.getFileName().toString().replace(".java", "");
                CHECK.same("it names " + name, readme.contains("`" + name + "`"), true);
            }
        }
    }
}
