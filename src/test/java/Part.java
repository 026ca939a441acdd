/** A part of the document, gone through sentence by sentence. */
abstract class Part {
    static final String NO_SWITCH = "Throws `IndexOutOfBoundsException` if there is no such SWITCH";
    static final String NO_SWITCH_OR_VARIANT = NO_SWITCH + ", or VARIANT of it";
    static final String NO_ASKER = "Throws `IllegalArgumentException` if user is not 0 to 9999, or first or second is not 0 to 9";
    static final String ONE = "- `one`: a SWITCH";
    static final String VARIANT = "- `variant`: a VARIANT";

    final Check check;
    final Sentences s;

    Part(Check check, Sentences s) {
        this.check = check;
        this.s = s;
    }

    abstract void goThrough();

    Run run() {
        return new Run(check);
    }

    Run busy() {
        return Scenes.busy(check);
    }

    Run full() {
        return Scenes.full(check);
    }

    /** The call with a SWITCH in the place of $, where there is none, where there are some, and where there are 8. */
    void everySwitch(String call) {
        noSwitch(call);
        busy().takes(call.replace("$", "0")).takes(call.replace("$", "3"));
        full().takes(call.replace("$", "0")).takes(call.replace("$", "7"));
    }

    void noSwitch(String call) {
        run().beyond(call, 0, -1, Check.INDEX);
        busy().beyond(call, 0, 3, Check.INDEX).refuses(call.replace("$", "8"), Check.INDEX);
        full().beyond(call, 0, 7, Check.INDEX);
    }

    /** The call with a SWITCH in the place of # and a VARIANT in that of $, for 2, 3 and 4 VARIANTS. */
    void everyVariant(String call) {
        busy().range(call.replace("#", "0"), 0, 1, Check.INDEX)
            .range(call.replace("#", "1"), 0, 2, Check.INDEX)
            .range(call.replace("#", "2"), 0, 3, Check.INDEX);
    }
}
