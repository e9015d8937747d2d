import java.io.IOException;
import java.nio.file.Files;
import java.nio.file.Path;
import java.util.HashMap;
import java.util.List;
import java.util.Map;
import java.util.Set;
import java.util.TreeSet;
import java.util.regex.Matcher;
import java.util.regex.Pattern;
import java.util.stream.Collectors;
import java.util.stream.Stream;

/** What README.md says is so: its example, what it says of each call, and the tests it names. */
public final class ReadmeTest {
    private static final Path TESTS = Path.of("src/test/java");
    private static final Pattern EXAMPLE_LINE = Pattern.compile("(?:int (\\w+) = )?rows\\.(\\w+\\([^)]*\\));\\s+// ([-\\w]+)(?:: .*)?");
    private static final Pattern CALL_ROW = Pattern.compile("\\| `(\\w+ (\\w+)\\([\\w, ]*\\))` \\| .* \\| .* \\| ([A-Z, ]+) \\|");
    private static final Map<String, Integer> CONSTANTS = Map.of(
        "BAD", StatRows.BAD, "NO", StatRows.NO, "FULL", StatRows.FULL);

    private static final Due due = new Due();

    public static void main(String[] args) throws IOException {
        String readme = Files.readString(Path.of("README.md"));
        example(readme);
        calls(readme);
        constants(readme);
        allTestsAreNamed(readme);
        namedTestsAreThere(readme);
        due.end();
    }

    private static void example(String readme) {
        int start = readme.indexOf("```java\n") + 8;
        List<String> lines = readme.substring(start, readme.indexOf("```", start)).lines().toList();
        due.isTrue("an object is made", lines.get(0).equals("StatRows rows = new StatRows();"));
        StatRows rows = new StatRows();
        Map<String, Long> variables = new HashMap<>();
        Set<String> names = new TreeSet<>();
        for (String line : lines.subList(1, lines.size())) {
            Matcher parts = EXAMPLE_LINE.matcher(line);
            due.isTrue("a call with its answer: " + line, parts.matches());
            Call call = Call.read(withValues(parts.group(2), variables));
            names.add(call.name());
            long answer = call.on(rows);
            due.is(line, answer, answerOf(parts.group(3)));
            if (parts.group(1) != null) {
                variables.put(parts.group(1), answer);
            }
        }
        due.isTrue("the example has each call: " + names, names.equals(Set.of(Call.NAMES)));
    }

    private static String withValues(String call, Map<String, Long> variables) {
        String written = call;
        for (Map.Entry<String, Long> variable : variables.entrySet()) {
            written = written.replaceAll("\\b" + variable.getKey() + "\\b", variable.getValue().toString());
        }
        return written;
    }

    private static long answerOf(String word) {
        return CONSTANTS.containsKey(word) ? CONSTANTS.get(word) : Long.parseLong(word);
    }

    private static void calls(String readme) throws IOException {
        Set<String> signatures = new TreeSet<>();
        Matcher rows = CALL_ROW.matcher(readme);
        while (rows.find()) {
            signatures.add(rows.group(1));
            Set<String> said = new TreeSet<>(List.of(rows.group(3).split(", ")));
            Set<String> seen = refusalsOf(rows.group(2));
            due.isTrue(rows.group(2) + " refuses with " + seen + ", not with " + said, seen.equals(said));
        }
        due.isTrue("the calls are those of the document: " + signatures, signatures.equals(Face.methods()));
    }

    /** With what a call was refused when it had all its limits, in all states. */
    private static Set<String> refusalsOf(String name) {
        Set<String> seen = new TreeSet<>();
        for (List<Call> state : States.all().values()) {
            for (long answer : Answers.after(state, Grid.of(name))) {
                for (Map.Entry<String, Integer> constant : CONSTANTS.entrySet()) {
                    if (answer == constant.getValue()) {
                        seen.add(constant.getKey());
                    }
                }
            }
        }
        return seen;
    }

    private static void constants(String readme) {
        for (Map.Entry<String, Integer> constant : CONSTANTS.entrySet()) {
            String row = "| `" + constant.getKey() + "` | " + constant.getValue() + " | ";
            due.isTrue("README.md says what " + constant.getKey() + " means", readme.contains(row));
        }
    }

    private static void allTestsAreNamed(String readme) throws IOException {
        try (Stream<Path> files = Files.list(TESTS)) {
            for (Path file : files.collect(Collectors.toList())) {
                String name = file.getFileName().toString().replace(".java", "");
                due.isTrue("README.md names " + name, readme.contains("`" + name + "`"));
            }
        }
    }

    /** In the tables a name without its class is of the class named before it. */
    private static void namedTestsAreThere(String readme) throws IOException {
        int found = 0;
        for (String line : readme.lines().filter(text -> text.startsWith("|")).toList()) {
            Matcher names = Pattern.compile("`(?:([A-Z]\\w*Test)(?:\\.(\\w+))?|(\\w+))`").matcher(line);
            String test = null;
            while (names.find()) {
                test = names.group(1) == null ? test : names.group(1);
                String method = names.group(2) == null ? names.group(3) : names.group(2);
                if (test != null) {
                    String text = Files.readString(TESTS.resolve(test + ".java"));
                    boolean isRun = method == null || Pattern.compile("^ {8,}" + method + "\\(.*\\);$", Pattern.MULTILINE)
                        .matcher(text).find();
                    due.isTrue(test + " runs " + method, isRun);
                    found++;
                }
            }
        }
        due.isTrue("tests are named", found > 150);
    }
}
