import java.lang.reflect.InvocationTargetException;
import java.lang.reflect.Method;
import java.lang.reflect.Modifier;
import java.util.HashMap;
import java.util.Map;
import java.util.regex.Matcher;
import java.util.regex.Pattern;

/**
 * Calls one new object by what is written, "weigh(0, 1, 500)", where MIN and MAX are the least and the greatest int.
 * It counts the calls, since a test has nothing to say about what a 513th answers.
 */
final class Caller {
    private static final int MOST_CALLS = 512;
    private static final Pattern CALL = Pattern.compile("(\\w+)\\((.*)\\)");
    private static final Map<String, Method> FACE = face();

    private final DaybreakFlags x = new DaybreakFlags();
    private int calls;

    private static Map<String, Method> face() {
        Map<String, Method> face = new HashMap<>();
        for (Method each : DaybreakFlags.class.getDeclaredMethods()) {
            if (Modifier.isPublic(each.getModifiers())) {
                face.put(each.getName(), each);
            }
        }
        return face;
    }

    int calls() {
        return calls;
    }

    /** The answer as Java writes it, or "throws" and the name of the exception. */
    String answer(String call) {
        Matcher written = CALL.matcher(call);
        Method method = written.matches() ? FACE.get(written.group(1)) : null;
        if (method == null || calls >= MOST_CALLS) {
            throw new AssertionError((method == null ? "no call of the face: " : "a call beyond the 512th: ") + call);
        }
        calls++;
        try {
            return String.valueOf(method.invoke(x, values(method, written.group(2))));
        } catch (InvocationTargetException thrown) {
            return thrown(thrown.getCause().getClass());
        } catch (IllegalAccessException | IllegalArgumentException e) {
            throw new AssertionError("no call of the face: " + call, e);
        }
    }

    static String thrown(Class<?> exception) {
        return "throws " + exception.getSimpleName();
    }

    private static Object[] values(Method method, String written) {
        String[] texts = written.isEmpty() ? new String[0] : written.split(", ");
        Object[] values = new Object[texts.length];
        for (int i = 0; i < texts.length; i++) {
            boolean isTruth = texts[i].equals("true") || texts[i].equals("false");
            values[i] = isTruth ? (Object) Boolean.valueOf(texts[i]) : (Object) number(texts[i]);
        }
        return values;
    }

    private static int number(String text) {
        if (text.equals("MIN")) {
            return Integer.MIN_VALUE;
        }
        return text.equals("MAX") ? Integer.MAX_VALUE : Integer.parseInt(text);
    }
}
