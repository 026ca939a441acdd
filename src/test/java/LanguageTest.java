import java.io.IOException;
import java.lang.reflect.Executable;
import java.lang.reflect.Field;
import java.lang.reflect.Modifier;
import java.nio.file.Files;
import java.nio.file.Path;
import java.util.ArrayList;
import java.util.List;
import java.util.Set;
import java.util.TreeSet;
import java.util.regex.Matcher;
import java.util.regex.Pattern;

/**
 * What of the rules of LANGUAGE.md can be seen in the text of the class and by reflection. It takes less than the rules
 * leave: whoever needs more of them adds it here.
 */
public final class LanguageTest {
    private static final Path PLACE = Path.of("src/main/java/DaybreakFlags.java");
    private static final Set<String> EXCEPTIONS =
        Set.of("IllegalArgumentException", "IllegalStateException", "IndexOutOfBoundsException");
    private static final Set<String> LIBRARY = Set.of("Math");
    private static final Set<String> FUNCTIONS = Set.of("max", "min", "abs", "floorDiv", "floorMod");
    private static final String[] LEFT_OUT = {"package", "import", "try", "catch", "finally", "synchronized", "assert",
        "instanceof", "float", "native", "volatile", "protected", "equals", "hashCode", "toString", "getClass", "while"};
    private static final int MOST_CLASSES = 12;
    private static final int MOST_FIELDS = 20;
    private static final int MOST_PARAMETERS = 7;
    private static final int MOST_LINES = 60;

    private final Check check = new Check();
    private final String whole;
    private final String code;
    private final List<Class<?>> classes = new ArrayList<>();

    private LanguageTest(String whole) {
        this.whole = whole;
        code = whole.replaceAll("(?s)/\\*.*?\\*/", "").replaceAll("//.*", "");
        classes.add(DaybreakFlags.class);
        classes.addAll(List.of(DaybreakFlags.class.getDeclaredClasses()));
    }

    public static void main(String[] args) throws IOException {
        new LanguageTest(Files.readString(PLACE)).run();
    }

    private void run() {
        check.due("signs that are not 1 to 127", whole.chars().filter(c -> c < 1 || c > 127).count(), 0);
        words();
        library();
        exceptions();
        lengths();
        for (Class<?> each : classes) {
            members(each);
        }
        check.due("at most 12 classes", classes.size() <= MOST_CLASSES, true);
        check.end();
    }

    private void words() {
        for (String each : LEFT_OUT) {
            check.due("found: " + each, Pattern.compile("\\b" + each + "\\b").matcher(code).find(), false);
        }
        for (String each : new String[] {"->", "::", "@"}) {
            check.due("found: " + each, code.contains(each), false);
        }
    }

    /** Each name that begins like that of a class is that of an own one, or of one that the rules leave. */
    private void library() {
        Set<String> known = new TreeSet<>(EXCEPTIONS);
        known.addAll(LIBRARY);
        for (Class<?> each : classes) {
            known.add(each.getSimpleName());
        }
        Matcher name = Pattern.compile("\\b[A-Z]\\w*[a-z]\\w*").matcher(code.replaceAll("\"[^\"]*\"", ""));
        while (name.find()) {
            check.due(name.group() + " is known", known.contains(name.group()), true);
        }
        Matcher function = Pattern.compile("\\bMath\\.(\\w+)").matcher(code);
        while (function.find()) {
            check.due(function.group() + " is left by the rules", FUNCTIONS.contains(function.group(1)), true);
        }
    }

    private void exceptions() {
        Matcher thrown = Pattern.compile("\\bthrow\\b([^;]*);").matcher(code);
        Pattern due = Pattern.compile(" new (\\w+)\\((\"[^\"]*\")?\\)");
        while (thrown.find()) {
            Matcher made = due.matcher(thrown.group(1));
            boolean isFine = made.matches() && EXCEPTIONS.contains(made.group(1));
            check.due("as the rules have it: " + thrown.group(), isFine, true);
        }
    }

    /** A method ends with the brace that stands as far in as it began. */
    private void lengths() {
        String end = "";
        int length = 0;
        int methods = 0;
        for (String line : whole.split("\n")) {
            length++;
            if (line.matches("(    |        )(\\w.*\\) |\\w.*\\) throws .*)\\{") && !line.contains(" class ") && end.isEmpty()) {
                end = line.replaceAll("\\S.*", "") + "}";
                length = 1;
                methods += line.matches(" *(public )?[A-Z]\\w*\\(.*") ? 0 : 1;
            }
            if (!end.isEmpty() && line.equals(end)) {
                check.due("at most 60 lines, up to the end of a method", length <= MOST_LINES, true);
                end = "";
            }
        }
        int due = 0;
        for (Class<?> each : classes) {
            due += each.getDeclaredMethods().length;
        }
        check.due("the methods whose lines were counted", methods, due);
    }

    private void members(Class<?> each) {
        int fields = 0;
        for (Field field : each.getDeclaredFields()) {
            boolean isStatic = Modifier.isStatic(field.getModifiers());
            boolean isConstant = Modifier.isFinal(field.getModifiers()) && field.getType().isPrimitive();
            check.due(field + " is a constant, if it is static", !isStatic || isConstant, true);
            fields += isStatic ? 0 : 1;
        }
        check.due(each + " has at most 20 fields", fields <= MOST_FIELDS, true);
        List<Executable> calls = new ArrayList<>(List.of(each.getDeclaredMethods()));
        calls.addAll(List.of(each.getDeclaredConstructors()));
        for (Executable call : calls) {
            check.due(call + " has at most 7 parameters", call.getParameterCount() <= MOST_PARAMETERS, true);
        }
    }
}
