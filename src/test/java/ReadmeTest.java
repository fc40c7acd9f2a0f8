import java.io.IOException;
import java.lang.reflect.Method;
import java.nio.file.Files;
import java.nio.file.Path;
import java.util.Arrays;
import java.util.List;
import java.util.TreeSet;
import java.util.regex.Matcher;
import java.util.regex.Pattern;
import java.util.stream.Collectors;
import java.util.stream.Stream;

/** README.md tells the document's calls and no other, and its example answers what it says. */
final class ReadmeTest {
    private static final Pattern FACE = Pattern.compile("    public (\\w+ \\w+\\(.*\\))(.*);");
    private static final Pattern ROW =
        Pattern.compile("\\| `(\\w+ \\w+\\([^`]*\\))` \\| (.+) \\|(.*)\\|");
    private static final Pattern EXCEPTION = Pattern.compile("\\w+Exception");
    private static final Pattern CALL =
        Pattern.compile("x\\.(\\w+)\\((.*)\\); +// (-?\\d+): .+");

    private static final Due due = new Due();

    public static void main(String[] args) throws Exception {
        List<String> readme = Files.readAllLines(Path.of("README.md"));
        List<String> document = Files.readAllLines(Path.of("../shared/DOC.md"));
        TreeSet<String> told = calls(readme, ROW);
        TreeSet<String> face = calls(document, FACE);
        due.same("calls of the document", face.size(), 15);
        for (String call : face) {
            due.same("is told: " + call, told.contains(call) ? 1 : 0, 1);
        }
        for (String call : told) {
            due.same("is the document's: " + call, face.contains(call) ? 1 : 0, 1);
        }
        example(readme);
        tests(String.join("\n", readme));
        due.end("ReadmeTest");
    }

    /** Each call with its parameters, and its exceptions in their order. */
    private static TreeSet<String> calls(List<String> lines, Pattern pattern) {
        TreeSet<String> all = new TreeSet<>();
        for (String line : lines) {
            Matcher call = pattern.matcher(line);
            if (call.matches()) {
                Matcher exception = EXCEPTION.matcher(call.group(call.groupCount()));
                all.add(call.group(1) + exception.results().map(e -> " " + e.group())
                    .collect(Collectors.joining()));
            }
        }
        return all;
    }

    /** Makes the calls of the example, and compares the answers with those in its comments. */
    private static void example(List<String> readme) throws Exception {
        CheapVotes x = new CheapVotes(3);
        due.same("the object", readme.stream().anyMatch(
            line -> line.startsWith("CheapVotes x = new CheapVotes(3);")) ? 1 : 0, 1);
        int made = 0;
        for (String line : readme) {
            Matcher call = CALL.matcher(line);
            if (line.startsWith("x.")) {
                due.same("has an answer: " + line, call.matches() ? 1 : 0, 1);
                Object answer = answer(x, call.group(1), call.group(2).split(", "));
                due.same(line, (Integer) answer, Integer.parseInt(call.group(3)));
                made++;
            }
        }
        due.same("calls of the example", made > 10 ? 1 : 0, 1);
    }

    private static Object answer(CheapVotes x, String name, String[] words) throws Exception {
        Object[] values = Arrays.stream(words).filter(word -> !word.isEmpty())
            .map(ReadmeTest::value).toArray();
        for (Method method : CheapVotes.class.getMethods()) {
            if (method.getName().equals(name)) {
                return method.invoke(x, values);
            }
        }
        return null;
    }

    private static Object value(String word) {
        boolean truth = word.equals("true") || word.equals("false");
        return truth ? (Object) Boolean.valueOf(word) : (Object) Integer.valueOf(word);
    }

    /** How to run the tests, and each test by its name. */
    private static void tests(String readme) throws IOException {
        due.same("how to run them", readme.contains("`.ci/run`") ? 1 : 0, 1);
        try (Stream<Path> files = Files.list(Path.of("src/test/java"))) {
            for (Path file : files.sorted().toList()) {
                String name = file.getFileName().toString().replace(".java", "");
                boolean oneOfMany = name.matches("Promise\\d+Test");
                String told = oneOfMany ? "Promise1Test .. Promise16Test" : name;
                due.same("tells of " + name, readme.contains(told) ? 1 : 0, 1);
            }
        }
    }
}
