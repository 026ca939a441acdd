import java.util.ArrayList;
import java.util.List;

/**
 * A run of calls on a new object, each with the answer that is due. Of a call that is refused it looks at everything
 * else too: the same run without that call must tell the same.
 */
final class Run {
    private final Check check;
    private final Caller x = new Caller();
    private final List<String> made = new ArrayList<>();
    private List<String> everything;

    Run(Check check) {
        this.check = check;
    }

    /** Lines like "add(0, 2, false) = 0", "add(0, 1, false) throws IllegalArgumentException", or a call alone. */
    Run calls(String lines) {
        for (String line : lines.strip().split("\\s*\n\\s*")) {
            String[] call = line.split(" = | throws ");
            if (call.length == 1) {
                does(call[0]);
            } else if (line.contains(" = ")) {
                due(call[0], call[1]);
            } else {
                refuses(call[0], line.substring(call[0].length() + 1));
            }
        }
        return this;
    }

    /** A call whose answer is of no matter here; it is not refused, though. */
    Run does(String call) {
        String answer = make(call);
        check.due(call + " " + answer, answer.startsWith("throws"), false);
        return this;
    }

    Run due(String call, Object answer) {
        String want = String.valueOf(answer);
        String got = make(call);
        // 0.0 and -0.0 are the same number.
        boolean isSame = got.contains(".") && want.contains(".") && Double.parseDouble(got) == Double.parseDouble(want);
        check.dueText(call, isSame ? want : got, want);
        return this;
    }

    Run refuses(String call, Class<? extends RuntimeException> exception) {
        return refuses(call, Caller.thrown(exception));
    }

    /** A call that is taken here, made on another object, so that this one stays as it is. */
    Run takes(String call) {
        String answer = answer(call);
        check.due(call + " " + answer, answer.startsWith("throws"), false);
        return this;
    }

    /** The call with each number in the place of $: the least and the most are taken, those beyond are refused. */
    Run range(String call, int least, int most, Class<? extends RuntimeException> exception) {
        takes(with(call, least));
        takes(with(call, most));
        return beyond(call, least, most, exception);
    }

    Run beyond(String call, int least, int most, Class<? extends RuntimeException> exception) {
        refuses(with(call, least - 1), exception);
        refuses(with(call, most + 1), exception);
        refuses(call.replace("$", "MIN"), exception);
        return refuses(call.replace("$", "MAX"), exception);
    }

    /** What the call answers on another object, so that any number of them can be asked. */
    String answer(String call) {
        return again().answer(call);
    }

    Run changesNothing(String call) {
        if (everything == null) {
            everything = Everything.of(again());
        }
        Caller other = again();
        other.answer(call);
        check.dueText("what " + call + " changed", difference(everything, Everything.of(other)), "nothing");
        return this;
    }

    private Run refuses(String call, String thrown) {
        check.dueText(call, x.answer(call), thrown);
        return changesNothing(call);
    }

    private static String with(String call, int number) {
        return call.replace("$", String.valueOf(number));
    }

    private String make(String call) {
        made.add(call);
        everything = null;
        return x.answer(call);
    }

    private Caller again() {
        Caller other = new Caller();
        for (String call : made) {
            other.answer(call);
        }
        return other;
    }

    private static String difference(List<String> due, List<String> told) {
        for (int i = 0; i < Math.min(due.size(), told.size()); i++) {
            if (!due.get(i).equals(told.get(i))) {
                return told.get(i) + ", without it " + due.get(i);
            }
        }
        return due.size() == told.size() ? "nothing" : told.size() + " answers, without it " + due.size();
    }
}
