import java.util.ArrayList;
import java.util.List;

/**
 * All that calls can tell of an object. Much of it is told by calls that change the object (how far a RAMP was, what was
 * needed, the CLOCK), so the object is of no use afterwards.
 */
final class Everything {
    private static final int LAYERS = 3;
    private static final int MARKS = 10;

    private final Caller x;
    private final List<String> told = new ArrayList<>();

    private Everything(Caller x) {
        this.x = x;
    }

    static List<String> of(Caller x) {
        Everything all = new Everything(x);
        int switches = Integer.parseInt(all.look("switches()"));
        all.look("digest()");
        for (int one = 0; one < switches; one++) {
            all.lookAt(one);
        }
        for (int user = 0; user < MARKS; user++) {
            all.look("act(" + user + ", 1)");
        }
        for (int one = switches - 1; one >= 0; one--) {
            all.takeApart(one);
        }
        all.look("hold(0)");
        all.look("goOn(1)");
        all.look("add(0, 2, false)");
        all.look("digest()");
        return all.told;
    }

    private String look(String call) {
        String answer = x.answer(call);
        told.add(call + " = " + answer);
        return answer;
    }

    private void lookAt(int one) {
        look("shareIn(" + one + ", 1)");
        look("shareIn(" + one + ", 1000)");
        look("wouldChange(" + one + ", 0, 200)");
        look("wouldChange(" + one + ", 1000, 200)");
        look("wouldTurn(" + one + ", 200)");
        for (int mark = 0; mark < MARKS; mark++) {
            look("holds(" + one + ", 0, " + mark + ", " + (9 - mark) + ")");
        }
    }

    /** Takes away, one by one, what keeps a USER from a VARIANT, down to the RULES. */
    private void takeApart(int one) {
        look("turn(" + one + ", true)");
        look("need(" + one + ", -1, 0)");
        look("ramp(" + one + ", 1000, 0)");
        look("place(" + one + ", -1, 0, 0)");
        for (int layer = 0; layer < LAYERS; layer++) {
            look("left(" + layer + ")");
        }
        for (int mark = 0; mark < MARKS; mark++) {
            look("gets(" + one + ", " + (10 + mark) + ", " + mark + ", " + (9 - mark) + ")");
        }
        String left;
        do {
            left = look("unrule(" + one + ", 0)");
        } while (!left.startsWith("throws") && !left.equals("0"));
    }
}
