/** Promises 16 to 23: the boundary cases of who gets what, and why, and of the ARMS that come of it. */
final class WhoGetsWhatBounds extends Part {
    private static final String[] ASKERS = {"- `user`: the USER", "- `first`: its MARK 0", "- `second`: its MARK 1"};

    WhoGetsWhatBounds(Check check, Sentences s) {
        super(check, s);
    }

    @Override
    void goThrough() {
        bucket();
        gets();
        why();
        holds();
        ask();
        act();
        arm();
        arms();
    }

    private void bucket() {
        s.in("Promise 16: bucket");
        s.plain("- `salt`: a SALT", "- `user`: a USER");
        s.holds("Returns the BUCKET.", () -> run().calls("""
            bucket(0, 0) = 289
            bucket(0, 9999) = 302
            bucket(999, 0) = 937
            bucket(999, 9999) = 579
            bucket(0, 1821) = 0
            bucket(14, 4254) = 0
            bucket(28, 7163) = 999
            bucket(7, 3837) = 999
            """));
        s.holds("Throws `IllegalArgumentException` if salt is not 0 to 999, or user is not 0 to 9999", () -> {
            for (Run run : new Run[] {run(), busy(), full()}) {
                run.range("bucket($, 5)", 0, 999, Check.ARGUMENT).range("bucket(5, $)", 0, 9999, Check.ARGUMENT)
                    .refuses("bucket(-1, -1)", Check.ARGUMENT).refuses("bucket(1000, 10000)", Check.ARGUMENT);
            }
        });
    }

    private void gets() {
        s.in("Promise 17: gets");
        s.plain(ONE);
        s.plain(ASKERS);
        s.holds("Returns the VARIANT that the USER GETS.", () -> {
            byEachMark().due("gets(0, 0, 0, 0)", 1).due("gets(0, 9999, 9, 9)", 2).due("gets(0, 0, 9, 0)", 2)
                .due("gets(0, 9999, 1, 9)", 3).due("gets(0, 0, 1, 1)", 0).due("arms()", 0);
        });
        s.holds(NO_SWITCH, () -> everySwitch("gets($, 5, 3, 3)"));
        s.holds(NO_ASKER, () -> everyAsker("gets"));
    }

    private void why() {
        s.in("Promise 18: why");
        s.plain(ONE);
        s.plain(ASKERS);
        s.holds("Returns the REASON.", () -> {
            byEachMark().due("why(0, 0, 0, 0)", 3).due("why(0, 9999, 9, 9)", 3).due("why(0, 9999, 8, 9)", 3)
                .due("why(0, 9999, 1, 1)", 7).does("rule(0, 1, 2, 1, -1)").due("why(0, 9999, 1, 1)", 8)
                .due("why(0, 0, 1, 1)", 8).due("arms()", 0).does("turn(0, false)").due("why(0, 0, 0, 0)", 0)
                .due("why(0, 9999, 9, 9)", 0);
        });
        s.holds(NO_SWITCH, () -> everySwitch("why($, 5, 3, 3)"));
        s.holds(NO_ASKER, () -> everyAsker("why"));
    }

    private void holds() {
        s.in("Promise 19: holds");
        s.plain(ONE);
        s.plain(ASKERS);
        s.holds("Returns the first RULE that holds, as it is numbered; NONE without one.", () -> {
            run().calls("""
                add(1, 2, false)
                holds(0, 0, 0, 0) = -1
                rule(0, 0, 1, 0, 1)
                rule(0, 0, 3, 9, 1)
                holds(0, 0, 0, 0) = -1
                holds(0, 9999, 9, 9) = -1
                rule(0, 0, 2, 0, -1)
                rule(0, 1, 2, 9, 1)
                rule(0, 0, 1, 9, 1)
                holds(0, 0, 0, 0) = 2
                holds(0, 0, 0, 9) = 2
                holds(0, 0, 9, 9) = 3
                holds(0, 0, 8, 0) = 4
                holds(0, 0, 9, 8) = -1
                unrule(0, 0)
                unrule(0, 0)
                holds(0, 0, 0, 0) = 0
                holds(0, 9999, 0, 9) = 0
                why(0, 0, 0, 0) = 0
                """);
        });
        s.holds(NO_SWITCH, () -> everySwitch("holds($, 5, 3, 3)"));
        s.holds(NO_ASKER, () -> everyAsker("holds"));
    }

    private void ask() {
        s.in("Promise 20: ask");
        s.plain("A USER ASKS.", ONE);
        s.plain(ASKERS);
        s.holds("Returns the VARIANT that the USER is SHOWN.", () -> {
            byEachMark().due("ask(0, 0, 0, 0)", 1).due("ask(0, 9999, 9, 9)", 2).due("ask(0, 9999, 1, 9)", 3)
                .due("ask(0, 9999, 1, 1)", 0).due("arms()", 0).does("turn(0, false)").due("ask(0, 0, 0, 0)", 0)
                .due("arms()", 0);
            full().due("ask(3, 50, 0, 0)", Users.bucket(71 * 3, 50) < 500 ? 0 : 1).due("arm(3, 50)", -1);
        });
        s.holds(NO_SWITCH, () -> everySwitch("ask($, 5, 3, 3)"));
        s.holds(NO_ASKER, () -> everyAsker("ask"));
    }

    /** One SWITCH that tells by its RULES who asks: VARIANT 1 for the MARK 0 of 0, 2 for that of 9, 3 for the MARK 1 of 9. */
    private Run byEachMark() {
        return run().calls("""
            add(60, 4, false)
            turn(0, true)
            rule(0, 0, 1, 1, 1)
            rule(0, 0, 3, 8, 2)
            rule(0, 1, 3, 8, 3)
            """);
    }

    private void everyAsker(String call) {
        for (Run run : new Run[] {busy(), full()}) {
            run.range(call + "(3, $, 4, 6)", 0, 9999, Check.ARGUMENT)
                .range(call + "(3, 60, $, 6)", 0, 9, Check.ARGUMENT)
                .range(call + "(3, 60, 4, $)", 0, 9, Check.ARGUMENT)
                .refuses(call + "(0, 10000, 10, 10)", Check.ARGUMENT)
                .refuses(call + "(0, -1, -1, -1)", Check.ARGUMENT);
        }
        // Here a question that is taken leaves an ARM.
        run().does("add(60, 2, false)").does("turn(0, true)")
            .beyond(call + "(0, $, 4, 6)", 0, 9999, Check.ARGUMENT)
            .beyond(call + "(0, 5, $, 6)", 0, 9, Check.ARGUMENT)
            .beyond(call + "(0, 5, 4, $)", 0, 9, Check.ARGUMENT);
    }

    private void act() {
        s.in("Promise 21: act");
        s.plain("A USER ACTS.", "- `user`: the USER");
        s.holds("- `worth`: what it is worth", () -> run().calls("""
            add(60, 2, false)
            turn(0, true)
            ask(0, 5, 0, 0) = 0
            act(5, 0)
            told(0, 0, 2) = 0
            act(5, 100)
            told(0, 0, 2) = 100
            act(5, 1)
            told(0, 0, 2) = 101
            """));
        s.holds("Returns for how many SWITCHES the USER has an ARM.", () -> {
            Run run = run();
            run.due("act(9999, 0)", 0);
            for (int one = 0; one < 8; one++) {
                run.does("add(60, 2, false)").does("turn(" + one + ", true)").due("act(9999, 100)", one);
                run.does("ask(" + one + ", 9999, 9, 9)").does("ask(" + one + ", 9999, 9, 9)").due("act(9999, 1)", one + 1);
            }
            run.due("act(9998, 1)", 0).due("act(0, 1)", 0);
            full().due("act(0, 5)", 2).due("act(49, 5)", 2).due("act(50, 5)", 0);
        });
        s.holds("Throws `IllegalArgumentException` if user is not 0 to 9999, or worth is not 0 to 100", () -> {
            for (Run run : new Run[] {run(), busy(), full()}) {
                run.range("act($, 5)", 0, 9999, Check.ARGUMENT).range("act(1, $)", 0, 100, Check.ARGUMENT)
                    .refuses("act(10000, 101)", Check.ARGUMENT).refuses("act(-1, -1)", Check.ARGUMENT);
            }
        });
    }

    private void arm() {
        s.in("Promise 22: arm");
        s.plain(ONE, "- `user`: a USER");
        s.holds("Returns the ARM of the USER; NONE without one.", () -> {
            run().calls("""
                add(60, 4, false)
                add(61, 4, false)
                turn(0, true)
                arm(0, 0) = -1
                arm(0, 9999) = -1
                ask(0, 9999, 0, 0) = 0
                arm(0, 9999) = 0
                arm(0, 0) = -1
                arm(1, 9999) = -1
                weigh(0, 3, 1000)
                ask(0, 0, 0, 0) = 3
                arm(0, 0) = 3
                arm(0, 9999) = 0
                turn(0, false)
                arm(0, 0) = 3
                """);
            full().due("arm(4, 49)", Users.bucket(71 * 4, 49) < 500 ? 0 : 1).due("arm(4, 50)", -1);
        });
        s.holds(NO_SWITCH, () -> everySwitch("arm($, 5)"));
        s.holds("Throws `IllegalArgumentException` if user is not 0 to 9999", () -> {
            for (Run run : new Run[] {busy(), full()}) {
                run.range("arm(0, $)", 0, 9999, Check.ARGUMENT).range("arm(3, $)", 0, 9999, Check.ARGUMENT);
            }
        });
    }

    private void arms() {
        s.in("Promise 23: arms");
        s.holds("Returns how many ARMS are kept, over all SWITCHES.", () -> {
            Run run = run().calls("""
                arms() = 0
                add(60, 2, false)
                add(60, 2, true)
                ask(0, 7, 0, 0)
                arms() = 0
                turn(0, true)
                turn(1, true)
                arms() = 0
                """);
            for (int user = 0; user < 50; user++) {
                run.does("ask(0, " + user + ", 0, 0)").due("arms()", 2 * user + 1);
                run.does("ask(0, " + user + ", 5, 0)").due("arms()", 2 * user + 1);
                run.does("ask(1, " + user + ", 0, 0)").due("arms()", 2 * user + 2);
            }
            run.does("ask(0, 50, 0, 0)").due("arms()", 100).does("ask(1, 50, 0, 0)").due("arms()", 100);
        });
    }
}
