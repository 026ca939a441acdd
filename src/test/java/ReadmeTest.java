import java.io.IOException;
import java.nio.file.Files;
import java.nio.file.Path;
import java.util.Map;
import java.util.TreeMap;
import java.util.regex.Matcher;
import java.util.regex.Pattern;

/** What README.md tells: the answers in its example, every call of the face, every test, and how these are run. */
public final class ReadmeTest {
    private static final Path PLACE = Path.of("README.md");
    private static final Path TESTS = Path.of("src/test/java");
    private static final String MADE = "DaybreakFlags flags = new DaybreakFlags();";
    private static final Pattern BLOCK = Pattern.compile("```java\n(.*?)```", Pattern.DOTALL);
    private static final Pattern LINE = Pattern.compile("(?:(\\w+) \\w+ = )?flags\\.(\\w+\\(.*\\)); +// ([^ :]+): .*");
    private static final Pattern CALL = Pattern.compile("public (\\w+) (\\w+)\\((.*?)\\)");

    private final Check check = new Check();
    private final String readme;
    private final Map<String, String> typeOfName = new TreeMap<>();

    private ReadmeTest(String readme) {
        this.readme = readme;
    }

    public static void main(String[] args) throws IOException {
        new ReadmeTest(Files.readString(PLACE)).run();
    }

    private void run() {
        calls();
        example();
        tests();
        check.end();
    }

    private void calls() {
        Matcher call = CALL.matcher(Document.sections().get("The public face"));
        while (call.find()) {
            typeOfName.put(call.group(2), call.group(1));
            String told = "| `" + call.group(2) + "(" + call.group(3).replaceAll("\\b\\w+ (\\w+)", "$1") + ")` |";
            check.due("the calls have: " + told, readme.contains(told), true);
        }
        check.due("the calls of the face", typeOfName.size(), 35);
    }

    private void example() {
        Matcher block = BLOCK.matcher(readme);
        String[] lines = block.find() ? block.group(1).split("\n+") : new String[] {"no example"};
        check.dueText("the first line", lines[0], MADE);
        Caller flags = new Caller();
        for (int i = 1; i < lines.length; i++) {
            Matcher line = LINE.matcher(lines[i]);
            check.due("a call with its answer: " + lines[i], line.matches(), true);
            if (line.matches()) {
                String call = line.group(2);
                String type = typeOfName.get(call.substring(0, call.indexOf('(')));
                check.dueText(call, flags.answer(call), line.group(3));
                check.due(lines[i] + " has the type " + type, line.group(1) == null || line.group(1).equals(type), true);
            }
        }
    }

    private void tests() {
        check.due("how the tests are run is told", readme.contains("\n    .ci/run\n"), true);
        for (String each : TESTS.toFile().list()) {
            if (each.endsWith("Test.java")) {
                String name = each.substring(0, each.length() - ".java".length());
                check.due(name + " is told", readme.contains("`" + name + "`"), true);
            }
        }
    }
}
