import java.lang.reflect.Constructor;
import java.lang.reflect.Field;
import java.lang.reflect.Method;
import java.lang.reflect.Modifier;
import java.util.ArrayList;
import java.util.List;
import java.util.Set;
import java.util.TreeSet;

/** The public face: the methods of the document, as it writes them, and nothing beside them. */
public final class FaceTest {
    private static final String[] DUE = {
        "int add(int, int, boolean)", "int weigh(int, int, int)", "boolean turn(int, boolean)", "int ramp(int, int, int)",
        "int place(int, int, int, int)", "int need(int, int, int)", "int rule(int, int, int, int, int)",
        "int unrule(int, int)", "int hold(int)", "int goOn(int)", "int switches()", "int weight(int, int)",
        "int share(int)", "int left(int)", "int bucket(int, int)", "int gets(int, int, int, int)",
        "int why(int, int, int, int)", "int holds(int, int, int, int)", "int ask(int, int, int, int)",
        "int act(int, int)", "int arm(int, int)", "int arms()", "int told(int, int, int)", "double mean(int, int)",
        "double lift(int, int)", "double sure(int, int)", "int bad(int)", "boolean isTrusted(int)", "int best(int)",
        "int reach(int, int, int)", "int both(int, int, int)", "int wouldChange(int, int, int)",
        "int wouldTurn(int, int)", "int shareIn(int, int)", "long digest()"};

    public static void main(String[] args) {
        Check check = new Check();
        Set<String> due = new TreeSet<>(List.of(DUE));
        Set<String> names = new TreeSet<>();
        for (String each : DUE) {
            names.add(each.substring(each.indexOf(' ') + 1, each.indexOf('(')));
        }
        Class<?> face = DaybreakFlags.class;
        check.due("public and final", face.getModifiers() == (Modifier.PUBLIC | Modifier.FINAL), true);
        check.due("nothing above it", face.getSuperclass() == Object.class && face.getInterfaces().length == 0, true);
        Set<String> found = new TreeSet<>();
        for (Method each : face.getDeclaredMethods()) {
            boolean isPrivate = Modifier.isPrivate(each.getModifiers());
            check.due(each + " bears a name of the face", isPrivate && names.contains(each.getName()), false);
            if (!isPrivate) {
                found.add(written(each));
                check.due(each + " is public alone", each.getModifiers() == Modifier.PUBLIC, true);
            }
        }
        check.due("the face is " + found + ", due is " + due + ": same", found.equals(due), true);
        for (Field each : face.getDeclaredFields()) {
            check.due(each + " is private", Modifier.isPrivate(each.getModifiers()), true);
            check.due(each + " is no static state",
                !Modifier.isStatic(each.getModifiers()) || Modifier.isFinal(each.getModifiers()), true);
        }
        Constructor<?>[] made = face.getDeclaredConstructors();
        check.due("one constructor, public, without arguments",
            made.length == 1 && made[0].getModifiers() == Modifier.PUBLIC && made[0].getParameterCount() == 0, true);
        inside(check, face, names);
        check.end();
    }

    private static void inside(Check check, Class<?> face, Set<String> names) {
        for (Class<?> each : face.getDeclaredClasses()) {
            int modifiers = each.getModifiers();
            check.due(each + " is private and static", Modifier.isPrivate(modifiers) && Modifier.isStatic(modifiers), true);
            for (Method method : each.getDeclaredMethods()) {
                check.due(method + " bears a name of the face", names.contains(method.getName()), false);
            }
        }
    }

    private static String written(Method method) {
        List<String> parameters = new ArrayList<>();
        for (Class<?> each : method.getParameterTypes()) {
            parameters.add(each.getSimpleName());
        }
        return method.getReturnType().getSimpleName() + " " + method.getName() + "(" + String.join(", ", parameters) + ")";
    }
}
