import java.io.IOException;
import java.lang.reflect.Method;
import java.lang.reflect.Modifier;
import java.nio.file.Files;
import java.nio.file.Path;
import java.util.Arrays;
import java.util.List;
import java.util.regex.Matcher;
import java.util.regex.Pattern;
import java.util.stream.Collectors;
import java.util.stream.Stream;

/** README.md, read from where .ci/run stands: what it tells of the calls, its example, and its list of tests. */
public final class ReadmeTest {
    private static final Checks CHECKS = new Checks();
    private static final Pattern ROW = Pattern.compile("\\| `(\\w+\\([^)]*\\))` \\|([^|]+)\\|([^|]+)\\|([^|]+)\\|");
    private static final Pattern EXAMPLE = Pattern.compile("s\\.(\\w+)\\(([^)]*)\\); +// (-?\\d+(?:\\.\\d+)?)\\b.*");
    private static final String LIMIT_OF_CALLS = "good for 512 calls";

    public static void main(String[] args) throws IOException {
        List<String> lines = Files.readAllLines(Path.of("README.md"));
        eachCallHasItsRow(lines);
        noRowIsOfAnotherCall(lines);
        exampleAnswersAsItSays(lines);
        eachTestIsListed(lines);
        CHECKS.tell(lines.stream().anyMatch(line -> line.contains(LIMIT_OF_CALLS)),
                "README.md does not say that an object is " + LIMIT_OF_CALLS);
        CHECKS.tell(lines.stream().anyMatch(line -> line.contains("new ParallaxSheets()")),
                "README.md does not say how an object is made");
        CHECKS.close();
    }

    private static void eachCallHasItsRow(List<String> lines) {
        for (Method m : face()) {
            List<Matcher> rows = rows(lines).stream().filter(row -> row.group(1).equals(written(m))).toList();
            CHECKS.due("rows of README.md for " + written(m), rows.size(), 1);
            for (Matcher row : rows) {
                String thrown = row.group(4).replaceAll(" \\([^)]*\\)", "").trim();
                CHECKS.tell(thrown.equals(exceptions(m)),
                        "README.md: " + written(m) + " throws " + thrown + ", due is " + exceptions(m));
                CHECKS.tell(!row.group(2).isBlank() && !row.group(3).isBlank(),
                        "README.md: the row of " + written(m) + " says nothing");
            }
        }
    }

    private static void noRowIsOfAnotherCall(List<String> lines) {
        CHECKS.due("rows of calls in README.md", rows(lines).size(), face().size());
    }

    private static void exampleAnswersAsItSays(List<String> lines) {
        ParallaxSheets s = new ParallaxSheets();
        int made = 0;
        for (String line : lines) {
            Matcher call = EXAMPLE.matcher(line);
            if (call.matches()) {
                Number got = (Number) Calls.make(s, call.group(1), numbers(call.group(2)));
                CHECKS.dueExactly("README.md, " + line, got.doubleValue(), Double.parseDouble(call.group(3)));
                made++;
            }
        }
        CHECKS.tell(made > 0, "README.md has no example");
        CHECKS.due("calls of the example without an answer",
                lines.stream().filter(line -> line.startsWith("s.")).count() - made, 0);
    }

    private static void eachTestIsListed(List<String> lines) throws IOException {
        try (Stream<Path> files = Files.list(Path.of("src/test/java"))) {
            for (String name : files.map(file -> file.getFileName().toString().replace(".java", "")).toList()) {
                boolean isListed = lines.stream().anyMatch(line -> line.startsWith("| `" + name + "` |"));
                CHECKS.tell(isListed || !name.endsWith("Test"), "README.md does not list " + name);
            }
        }
    }

    private static List<Method> face() {
        return Arrays.stream(ParallaxSheets.class.getDeclaredMethods())
                .filter(m -> Modifier.isPublic(m.getModifiers())).toList();
    }

    private static List<Matcher> rows(List<String> lines) {
        return lines.stream().map(ROW::matcher).filter(Matcher::matches).toList();
    }

    /** The names of the arguments are there because .ci/run compiles the class with -parameters. */
    private static String written(Method m) {
        return m.getName() + Arrays.stream(m.getParameters()).map(p -> p.getName())
                .collect(Collectors.joining(", ", "(", ")"));
    }

    private static String exceptions(Method m) {
        if (m.getExceptionTypes().length == 0) {
            return "nothing";
        }
        return Arrays.stream(m.getExceptionTypes()).map(ReadmeTest::shortName).collect(Collectors.joining(", "));
    }

    private static String shortName(Class<?> exception) {
        if (exception == Checks.NO_PLACE) {
            return "Index";
        }
        if (exception == Checks.NO_ARGUMENT) {
            return "Argument";
        }
        return exception == Checks.NO_STATE ? "State" : exception.getName();
    }

    private static int[] numbers(String arguments) {
        return Pattern.compile("-?\\d+").matcher(arguments).results()
                .mapToInt(found -> Integer.parseInt(found.group())).toArray();
    }
}
