import java.math.BigInteger;

/** Promises 31 to 36: the boundary cases of what would be, and the digest. */
final class WhatWouldBeBounds extends Part {
    private static final String MANY = "- `many`: how many USERS";
    private static final String NOT_MANY = "Throws `IllegalArgumentException` if many is not 1 to 200";
    private static final int SALT = 60;

    WhatWouldBeBounds(Check check, Sentences s) {
        super(check, s);
    }

    @Override
    void goThrough() {
        reach();
        both();
        wouldChange();
        wouldTurn();
        shareIn();
        digest();
        s.in("Not promised");
        s.plain("How the state is held inside the object is free, as are the speed of each call, the text of toString and"
            + " the behaviour of equals and hashCode.", "Use of one object from several threads at once is not promised to be"
            + " safe.", "Nothing is promised beyond the answers and state changes described above, and nothing about an object"
            + " after its 512th call.");
    }

    /** A SWITCH that tells VARIANT 1 to all who get past its RAMP. */
    private Run ramped(int share) {
        return run().does("add(" + SALT + ", 2, false)").does("turn(0, true)").does("weigh(0, 1, 1000)")
            .does("ramp(0, " + share + ", 0)");
    }

    /** How many of the USERS have a BUCKET by the SALT + 1 of the range. */
    private static int between(int from, int to, int many) {
        int found = 0;
        for (int user = 0; user < many; user++) {
            int bucket = Users.bucket(SALT + 1, user);
            found += bucket >= from && bucket < to ? 1 : 0;
        }
        return found;
    }

    /** The call for so many USERS in the place of $, which counts those whom the RULES of the SWITCH 0 let through. */
    private static void countedOneByOne(Run run, String call) {
        run.does("rule(0, 0, 2, 0, -1)").due(call.replace("$", "1"), 1).due(call.replace("$", "10"), 1)
            .due(call.replace("$", "11"), 2).does("unrule(0, 0)");
        run.does("rule(0, 1, 2, 9, -1)").due(call.replace("$", "90"), 0).due(call.replace("$", "91"), 1)
            .due(call.replace("$", "199"), 19).due(call.replace("$", "200"), 20);
    }

    private void many(String call) {
        for (Run run : new Run[] {busy(), full()}) {
            run.range(call, 1, 200, Check.ARGUMENT).refuses(call.replace("$", "-5"), Check.ARGUMENT);
        }
    }

    private void reach() {
        s.in("Promise 31: reach");
        s.plain(ONE, VARIANT);
        s.holds(MANY, () -> {
            // USER 0 alone is reached by one, USER 199 by 200 alone: its MARKS are 9 and 9.
            Run run = run().calls("""
                add(60, 2, false)
                add(61, 2, false)
                turn(0, true)
                turn(1, true)
                rule(0, 0, 2, 9, 1)
                rule(1, 1, 2, 9, 1)
                need(1, 0, 1)
                """);
            run.due("reach(1, 1, 99)", 0).due("reach(1, 1, 100)", 1).due("reach(1, 1, 199)", 1).due("reach(1, 1, 200)", 2);
            run.does("unrule(0, 0)").does("unrule(1, 0)").does("rule(0, 0, 2, 0, 1)").does("rule(1, 1, 2, 0, 1)");
            run.due("reach(1, 1, 1)", 1).due("reach(1, 1, 100)", 1).due("reach(1, 1, 101)", 2);
        });
        s.holds("Returns how many of them GET it.", () -> run().calls("""
            add(60, 4, false)
            reach(0, 0, 200) = 200
            reach(0, 3, 200) = 0
            reach(0, 0, 1) = 1
            turn(0, true)
            weigh(0, 3, 1000)
            reach(0, 0, 200) = 0
            reach(0, 3, 200) = 200
            reach(0, 2, 200) = 0
            reach(0, 3, 1) = 1
            """));
        s.holds(NO_SWITCH_OR_VARIANT, () -> {
            everySwitch("reach($, 1, 5)");
            everyVariant("reach(#, $, 5)");
        });
        s.holds(NOT_MANY, () -> many("reach(0, 1, $)"));
    }

    private void both() {
        s.in("Promise 32: both");
        s.plain(ONE, "- `other`: a SWITCH");
        s.holds(MANY, () -> run().calls("""
            add(60, 2, false)
            turn(0, true)
            rule(0, 1, 2, 9, -1)
            both(0, 0, 1) = 0
            both(0, 0, 90) = 0
            both(0, 0, 91) = 1
            both(0, 0, 199) = 19
            both(0, 0, 200) = 20
            unrule(0, 0)
            rule(0, 0, 2, 0, -1)
            both(0, 0, 1) = 1
            """));
        s.holds("Returns how many of them GET a VARIANT with the REASON 8 of both.", () -> run().calls("""
            add(60, 2, false)
            add(61, 2, true)
            both(0, 1, 200) = 0
            both(0, 0, 200) = 0
            turn(0, true)
            both(0, 1, 200) = 0
            both(1, 0, 200) = 0
            both(0, 0, 200) = 200
            turn(1, true)
            both(0, 1, 200) = 200
            both(1, 0, 200) = 200
            ask(1, 0, 0, 0)
            ask(0, 1, 0, 0)
            both(0, 1, 200) = 199
            both(1, 0, 200) = 199
            both(1, 0, 1) = 0
            """));
        s.holds(NO_SWITCH, () -> {
            everySwitch("both($, $, 5)");
            for (String call : new String[] {"both(0, $, 5)", "both($, 0, 5)"}) {
                everySwitch(call);
            }
        });
        s.holds(NOT_MANY, () -> {
            many("both(0, 1, $)");
            many("both(2, 2, $)");
        });
    }

    private void wouldChange() {
        s.in("Promise 33: wouldChange");
        s.plain(ONE);
        s.holds("- `share`: a SHARE", () -> {
            for (int share : new int[] {0, 1, 499, 500, 501, 999, 1000}) {
                ramped(0).due("wouldChange(0, " + share + ", 200)", between(0, share, 200));
                ramped(500).due("wouldChange(0, " + share + ", 200)",
                    between(Math.min(share, 500), Math.max(share, 500), 200));
                ramped(1000).due("wouldChange(0, " + share + ", 200)", between(share, 1000, 200));
            }
        });
        s.holds(MANY, () -> {
            Run run = ramped(0);
            for (int many : new int[] {1, 2, 199, 200}) {
                run.due("wouldChange(0, 1000, " + many + ")", many);
            }
            countedOneByOne(ramped(0), "wouldChange(0, 1000, $)");
        });
        s.holds("Returns how many of them would GET another VARIANT of it, if its RAMP was that far.", () -> {
            ramped(0).calls("""
                wouldChange(0, 0, 200) = 0
                wouldChange(0, 1000, 200) = 200
                turn(0, false)
                wouldChange(0, 1000, 200) = 0
                turn(0, true)
                weigh(0, 1, 0)
                wouldChange(0, 1000, 200) = 0
                weigh(0, 1, 1000)
                rule(0, 0, 2, 3, 1)
                wouldChange(0, 1000, 200) = 0
                rule(0, 0, 3, 3, -1)
                wouldChange(0, 1000, 200) = 120
                add(5, 2, false)
                turn(1, true)
                weigh(1, 1, 1000)
                need(1, 0, 1)
                wouldChange(1, 0, 200) = 20
                wouldChange(1, 1000, 200) = 0
                """);
        });
        s.holds(NO_SWITCH, () -> everySwitch("wouldChange($, 0, 5)"));
        s.holds("Throws `IllegalArgumentException` if share is not 0 to 1000, or many is not 1 to 200", () -> {
            many("wouldChange(0, 5, $)");
            for (Run run : new Run[] {busy(), full()}) {
                run.range("wouldChange(0, $, 5)", 0, 1000, Check.ARGUMENT).refuses("wouldChange(0, -1, 0)", Check.ARGUMENT)
                    .refuses("wouldChange(0, 1001, 201)", Check.ARGUMENT);
            }
        });
    }

    private void wouldTurn() {
        s.in("Promise 34: wouldTurn");
        s.plain(ONE);
        s.holds(MANY, () -> {
            Run run = ramped(1000);
            for (int many : new int[] {1, 2, 199, 200}) {
                run.due("wouldTurn(0, " + many + ")", many);
            }
            countedOneByOne(ramped(1000), "wouldTurn(0, $)");
        });
        s.holds("Returns how many of them would GET another VARIANT of any SWITCH, if this one was turned (ON, if it is OFF,"
            + " and the other way round).", () -> {
            Run run = run();
            for (int one = 0; one < 8; one++) {
                run.does("add(" + one + ", 2, false)").due("wouldTurn(" + one + ", 200)", 0).does("turn(" + one + ", true)")
                    .due("wouldTurn(" + one + ", 200)", 0);
            }
            // The last one needs the first: a USER who would GET another VARIANT of both counts once.
            run.calls("""
                weigh(7, 1, 1000)
                wouldTurn(7, 200) = 200
                wouldTurn(6, 200) = 0
                rule(0, 0, 2, 9, 1)
                wouldTurn(0, 200) = 20
                need(7, 0, 1)
                wouldTurn(0, 200) = 20
                wouldTurn(7, 200) = 20
                need(7, 0, 0)
                wouldTurn(7, 200) = 180
                weigh(0, 1, 1000)
                rule(0, 1, 2, 9, -1)
                wouldTurn(0, 200) = 38
                turn(0, false)
                wouldTurn(0, 200) = 38
                wouldTurn(7, 200) = 200
                turn(7, false)
                wouldTurn(7, 200) = 200
                wouldTurn(0, 200) = 38
                """);
            run().calls("""
                add(1, 2, false)
                add(2, 2, false)
                weigh(1, 1, 1000)
                turn(1, true)
                turn(0, true)
                rule(0, 0, 2, 0, 0)
                need(1, 0, 1)
                wouldTurn(0, 200) = 0
                need(1, 0, 0)
                wouldTurn(0, 200) = 0
                wouldTurn(1, 200) = 200
                """);
        });
        s.holds(NO_SWITCH, () -> everySwitch("wouldTurn($, 5)"));
        s.holds(NOT_MANY, () -> many("wouldTurn(0, $)"));
    }

    private void shareIn() {
        s.in("Promise 35: shareIn");
        s.plain(ONE);
        s.holds("- `ticks`: a number of ticks", () -> run().calls("""
            add(1, 2, false)
            goOn(100)
            ramp(0, 0, 1)
            shareIn(0, 0) = 0
            shareIn(0, 1) = 1
            shareIn(0, 999) = 999
            shareIn(0, 1000) = 1000
            goOn(1)
            shareIn(0, 0) = 1
            shareIn(0, 998) = 999
            shareIn(0, 999) = 1000
            shareIn(0, 1000) = 1000
            """));
        s.holds("Returns how far its RAMP would be after them.", () -> run().calls("""
            add(1, 2, false)
            shareIn(0, 0) = 1000
            shareIn(0, 1000) = 1000
            ramp(0, 0, 0)
            shareIn(0, 1000) = 0
            ramp(0, 999, 0)
            shareIn(0, 1000) = 999
            ramp(0, 0, 1000)
            shareIn(0, 0) = 0
            shareIn(0, 1) = 1000
            shareIn(0, 1000) = 1000
            share(0) = 0
            ramp(0, 1000, 1000) = 0
            shareIn(0, 0) = 1000
            """));
        s.holds(NO_SWITCH, () -> everySwitch("shareIn($, 5)"));
        s.holds("Throws `IllegalArgumentException` if ticks is not 0 to 1000", () -> {
            for (Run run : new Run[] {busy(), full()}) {
                run.range("shareIn(0, $)", 0, 1000, Check.ARGUMENT);
            }
        });
    }

    private void digest() {
        s.in("Promise 36: digest");
        s.plain("Computes a checksum.", "Returns d.");
        s.holds("A number d starts with 2687; then d becomes d * 31 + v, which wraps around as a 64-bit integer, for each v in"
            + " this order: switches(), arms(), left() of each LAYER; for each SWITCH share(), bad(), 1 if isTrusted(), 0 if"
            + " not, best(), and for each VARIANT weight(), told() of 0 to 3, reach() of 20; then for each USER from 0 to 9,"
            + " and each SWITCH, gets() and why(), with the MARKS USER and 9 - USER, and arm().", () -> {
            run().due("digest()", 2687L * 31 * 31 * 31 * 31 * 31 + 1000 * 31 * 31 + 1000 * 31 + 1000);
            for (Run run : new Run[] {run(), run().does("add(7, 2, true)"), busy(), full()}) {
                BigInteger d = digestOf(run);
                run.due("digest()", d.longValue());
                check.due("it is wrapped around but without a SWITCH", d.bitLength() > 64, !run.answer("switches()").equals("0"));
            }
        });
    }

    /** The digest before anything is wrapped around. */
    private static BigInteger digestOf(Run run) {
        int switches = Integer.parseInt(run.answer("switches()"));
        BigInteger d = BigInteger.valueOf(2687);
        d = with(run, d, "switches()", "arms()", "left(0)", "left(1)", "left(2)");
        for (int one = 0; one < switches; one++) {
            d = with(run, d, "share(" + one + ")", "bad(" + one + ")", "isTrusted(" + one + ")", "best(" + one + ")");
            for (int v = 0; v < 4 && !run.answer("weight(" + one + ", " + v + ")").startsWith("throws"); v++) {
                String that = "(" + one + ", " + v;
                d = with(run, d, "weight" + that + ")", "told" + that + ", 0)", "told" + that + ", 1)",
                    "told" + that + ", 2)", "told" + that + ", 3)", "reach" + that + ", 20)");
            }
        }
        for (int user = 0; user < 10; user++) {
            for (int one = 0; one < switches; one++) {
                String asker = "(" + one + ", " + user + ", " + user + ", " + (9 - user) + ")";
                d = with(run, d, "gets" + asker, "why" + asker, "arm(" + one + ", " + user + ")");
            }
        }
        return d;
    }

    private static BigInteger with(Run run, BigInteger start, String... calls) {
        BigInteger d = start;
        for (String call : calls) {
            String v = run.answer(call).replace("true", "1").replace("false", "0");
            d = d.multiply(BigInteger.valueOf(31)).add(new BigInteger(v));
        }
        return d;
    }
}
