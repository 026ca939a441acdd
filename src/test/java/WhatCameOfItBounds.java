/** Promises 24 to 30: the boundary cases of what came of the ARMS. */
final class WhatCameOfItBounds extends Part {
    WhatCameOfItBounds(Check check, Sentences s) {
        super(check, s);
    }

    @Override
    void goThrough() {
        told();
        mean();
        lift();
        sure();
        bad();
        isTrusted();
        best();
    }

    /** ARMS of USER 100 of VARIANT 1, of 300, 301 and 302 of VARIANT 3, and, if that is wanted, of 0 of VARIANT 0. */
    private Run shown(boolean isFirstToo) {
        Run run = Arms.of(check, isFirstToo ? 1 : 0, 1, 0, 3);
        return run.calls("""
            act(100, 100)
            act(300, 0)
            act(301, 7)
            act(301, 3)
            """);
    }

    private void told() {
        s.in("Promise 24: told");
        s.plain(ONE, VARIANT);
        s.holds("- `what`: 0 COUNT, 1 ACTED, 2 SUM, 3 SQUARES", () -> shown(false).calls("""
            told(0, 1, 0) = 1
            told(0, 1, 1) = 1
            told(0, 1, 2) = 100
            told(0, 1, 3) = 10000
            told(0, 3, 0) = 3
            told(0, 3, 1) = 2
            told(0, 3, 2) = 10
            told(0, 3, 3) = 100
            """));
        s.holds("Returns that.", () -> {
            shown(false).calls("""
                told(0, 0, 0) = 0
                told(0, 0, 1) = 0
                told(0, 0, 2) = 0
                told(0, 0, 3) = 0
                told(0, 2, 0) = 0
                told(0, 2, 3) = 0
                """);
            Run run = run().does("add(60, 2, false)");
            for (int what = 0; what < 4; what++) {
                run.due("told(0, 0, " + what + ")", 0).due("told(0, 1, " + what + ")", 0);
            }
            int[] most = {100, 100, 10000, 1000000};
            Run all = Arms.of(check, 0, 100);
            for (int user = 100; user < 200; user++) {
                all.does("act(" + user + ", 100)");
            }
            for (int what = 0; what < 4; what++) {
                all.due("told(0, 1, " + what + ")", most[what]);
            }
        });
        s.holds(NO_SWITCH_OR_VARIANT, () -> {
            everySwitch("told($, 1, 0)");
            everySwitch("told($, 0, 3)");
            everyVariant("told(#, $, 2)");
        });
        s.holds("Throws `IllegalArgumentException` if what is not 0 to 3", () -> {
            for (Run run : new Run[] {busy(), full()}) {
                run.range("told(0, 1, $)", 0, 3, Check.ARGUMENT).range("told(3, 0, $)", 0, 3, Check.ARGUMENT);
            }
        });
    }

    private void mean() {
        s.in("Promise 25: mean");
        s.plain(ONE, VARIANT);
        s.holds("Returns its MEAN.", () -> {
            shown(true).due("mean(0, 0)", 0.0).due("mean(0, 1)", 100.0).due("mean(0, 2)", 0.0)
                .due("mean(0, 3)", 10.0 / 3);
        });
        s.holds(NO_SWITCH_OR_VARIANT, () -> {
            everySwitch("mean($, 1)");
            everyVariant("mean(#, $)");
        });
    }

    private void lift() {
        s.in("Promise 26: lift");
        s.plain(ONE, VARIANT);
        s.holds("Returns its LIFT.", () -> {
            shown(true).due("lift(0, 0)", 0.0).due("lift(0, 1)", 100.0).does("act(0, 50)").due("lift(0, 0)", 0.0)
                .due("lift(0, 1)", 50.0).due("lift(0, 2)", -50.0).due("lift(0, 3)", 10.0 / 3 - 50.0);
            shown(false).due("lift(0, 0)", 0.0).due("lift(0, 1)", 100.0).due("lift(0, 2)", 0.0);
        });
        s.holds(NO_SWITCH_OR_VARIANT, () -> {
            everySwitch("lift($, 1)");
            everyVariant("lift(#, $)");
        });
    }

    private void sure() {
        s.in("Promise 27: sure");
        s.plain(ONE, VARIANT);
        s.holds("Returns how SURE that is.", () -> {
            double mean = 10.0 / 3;
            double spread = 100.0 / 3 - mean * mean;
            shown(true).due("sure(0, 0)", 0.0).due("sure(0, 1)", 0.0).due("sure(0, 2)", 0.0)
                .due("sure(0, 3)", mean * mean / (spread / 3));
        });
        s.holds(NO_SWITCH_OR_VARIANT, () -> {
            everySwitch("sure($, 1)");
            everyVariant("sure(#, $)");
        });
    }

    private void bad() {
        s.in("Promise 28: bad");
        s.plain(ONE);
        s.holds("Returns BAD.", () -> {
            run().does("add(60, 2, false)").due("bad(0)", 0);
            Arms.of(check, 100).due("bad(0)", 0).does("weigh(0, 1, 1000)").due("bad(0)", 10000)
                .does("weigh(0, 1, 999)").due("bad(0)", 99900 * 99900L / 1000 + 9990);
        });
        s.holds(NO_SWITCH, () -> everySwitch("bad($)"));
    }

    private void isTrusted() {
        s.in("Promise 29: isTrusted");
        s.plain(ONE);
        s.holds("Returns whether its ARMS can be TRUSTED.", () -> {
            run().does("add(60, 2, false)").due("isTrusted(0)", true);
            Arms.of(check, 1).due("isTrusted(0)", true).does("weigh(0, 1, 1000)").due("isTrusted(0)", false);
        });
        s.holds(NO_SWITCH, () -> everySwitch("isTrusted($)"));
    }

    private void best() {
        s.in("Promise 30: best");
        s.plain(ONE);
        s.holds("Returns the VARIANT with the greatest MEAN of those with ARMS, of several the smallest number; NONE"
            + " without any.", () -> {
            run().does("add(60, 4, false)").due("best(0)", -1).does("turn(0, true)").due("best(0)", -1);
            Arms.of(check, 0, 0, 0, 1).due("best(0)", 3);
            Arms.of(check, 0, 1, 2, 3).calls("""
                best(0) = 1
                act(300, 1)
                best(0) = 3
                act(200, 1)
                best(0) = 2
                act(100, 1)
                best(0) = 1
                act(201, 1)
                best(0) = 1
                act(301, 1)
                act(302, 2)
                best(0) = 3
                """);
            Arms.of(check, 1, 1, 1, 1).calls("""
                best(0) = 0
                act(300, 100)
                act(0, 99)
                best(0) = 3
                act(0, 1)
                best(0) = 0
                act(100, 50)
                act(100, 51)
                best(0) = 1
                """);
        });
        s.holds(NO_SWITCH, () -> everySwitch("best($)"));
    }
}
