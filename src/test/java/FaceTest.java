import java.lang.reflect.Constructor;
import java.lang.reflect.Field;
import java.lang.reflect.Method;
import java.lang.reflect.Modifier;
import java.util.ArrayList;
import java.util.List;
import java.util.Set;
import java.util.TreeSet;

/** The public face: the methods of the document, with the exceptions that it declares, and nothing beside them. */
public final class FaceTest {
    private static final String[] DUE = {
        "int add(int, int, boolean) throws IllegalArgumentException, IllegalStateException",
        "int weigh(int, int, int) throws IndexOutOfBoundsException, IllegalArgumentException",
        "boolean turn(int, boolean) throws IndexOutOfBoundsException",
        "int ramp(int, int, int) throws IndexOutOfBoundsException, IllegalArgumentException",
        "int place(int, int, int, int) throws IndexOutOfBoundsException, IllegalArgumentException, IllegalStateException",
        "int need(int, int, int) throws IndexOutOfBoundsException, IllegalArgumentException",
        "int rule(int, int, int, int, int) throws IndexOutOfBoundsException, IllegalArgumentException, IllegalStateException",
        "int unrule(int, int) throws IndexOutOfBoundsException",
        "int hold(int) throws IllegalArgumentException",
        "int goOn(int) throws IllegalArgumentException",
        "int switches()",
        "int weight(int, int) throws IndexOutOfBoundsException",
        "int share(int) throws IndexOutOfBoundsException",
        "int left(int) throws IndexOutOfBoundsException",
        "int bucket(int, int) throws IllegalArgumentException",
        "int gets(int, int, int, int) throws IndexOutOfBoundsException, IllegalArgumentException",
        "int why(int, int, int, int) throws IndexOutOfBoundsException, IllegalArgumentException",
        "int holds(int, int, int, int) throws IndexOutOfBoundsException, IllegalArgumentException",
        "int ask(int, int, int, int) throws IndexOutOfBoundsException, IllegalArgumentException",
        "int act(int, int) throws IllegalArgumentException",
        "int arm(int, int) throws IndexOutOfBoundsException, IllegalArgumentException",
        "int arms()",
        "int told(int, int, int) throws IndexOutOfBoundsException, IllegalArgumentException",
        "double mean(int, int) throws IndexOutOfBoundsException",
        "double lift(int, int) throws IndexOutOfBoundsException",
        "double sure(int, int) throws IndexOutOfBoundsException",
        "int bad(int) throws IndexOutOfBoundsException",
        "boolean isTrusted(int) throws IndexOutOfBoundsException",
        "int best(int) throws IndexOutOfBoundsException",
        "int reach(int, int, int) throws IndexOutOfBoundsException, IllegalArgumentException",
        "int both(int, int, int) throws IndexOutOfBoundsException, IllegalArgumentException",
        "int wouldChange(int, int, int) throws IndexOutOfBoundsException, IllegalArgumentException",
        "int wouldTurn(int, int) throws IndexOutOfBoundsException, IllegalArgumentException",
        "int shareIn(int, int) throws IndexOutOfBoundsException, IllegalArgumentException",
        "long digest()"};

    public static void main(String[] args) {
        Check check = new Check();
        Set<String> due = new TreeSet<>(List.of(DUE));
        Set<String> names = new TreeSet<>();
        for (String each : DUE) {
            names.add(each.substring(each.indexOf(' ') + 1, each.indexOf('(')));
        }
        Class<?> face = DaybreakFlags.class;
        check.due("public and final", face.getModifiers() == (Modifier.PUBLIC | Modifier.FINAL), true);
        check.due("nothing above it", face.getSuperclass() == Object.class && face.getInterfaces().length == 0, true);
        Set<String> found = new TreeSet<>();
        for (Method each : face.getDeclaredMethods()) {
            boolean isPrivate = Modifier.isPrivate(each.getModifiers());
            check.due(each + " bears a name of the face", isPrivate && names.contains(each.getName()), false);
            if (!isPrivate) {
                found.add(written(each));
                check.due(each + " is public alone", each.getModifiers() == Modifier.PUBLIC, true);
            }
        }
        for (String each : due) {
            check.due("the face has: " + each, found.contains(each), true);
        }
        for (String each : found) {
            check.due("the document has: " + each, due.contains(each), true);
        }
        for (Field each : face.getDeclaredFields()) {
            check.due(each + " is private", Modifier.isPrivate(each.getModifiers()), true);
            check.due(each + " is no static state",
                !Modifier.isStatic(each.getModifiers()) || Modifier.isFinal(each.getModifiers()), true);
        }
        Constructor<?>[] made = face.getDeclaredConstructors();
        check.due("one constructor, public, without arguments",
            made.length == 1 && made[0].getModifiers() == Modifier.PUBLIC && made[0].getParameterCount() == 0, true);
        check.due("the constructor declares no exception",
            made.length == 1 && made[0].getExceptionTypes().length == 0, true);
        inside(check, face, names);
        check.end();
    }

    private static void inside(Check check, Class<?> face, Set<String> names) {
        for (Class<?> each : face.getDeclaredClasses()) {
            int modifiers = each.getModifiers();
            check.due(each + " is private and static", Modifier.isPrivate(modifiers) && Modifier.isStatic(modifiers), true);
            for (Method method : each.getDeclaredMethods()) {
                check.due(method + " bears a name of the face", names.contains(method.getName()), false);
            }
        }
    }

    /** The order of the exceptions is that of their declaration. */
    private static String written(Method method) {
        String declared = method.getReturnType().getSimpleName() + " " + method.getName()
            + "(" + joined(method.getParameterTypes()) + ")";
        String thrown = joined(method.getExceptionTypes());
        return thrown.isEmpty() ? declared : declared + " throws " + thrown;
    }

    private static String joined(Class<?>[] types) {
        List<String> names = new ArrayList<>();
        for (Class<?> each : types) {
            // Of another package a short name may be that of another class.
            boolean isKnown = each.isPrimitive() || each.getPackageName().equals("java.lang");
            names.add(isKnown ? each.getSimpleName() : each.getName());
        }
        return String.join(", ", names);
    }
}
