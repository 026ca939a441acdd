/** What stands ahead of the promises: the boundary cases in the words that they use. */
final class TermsBounds extends Part {
    private static final int SALT = 60;
    private static final String[] NO_RULES = {"-1, 1, 0", "2, 1, 0", "0, 0, 0", "0, 4, 0", "0, 1, -1", "0, 1, 10"};
    private static final String[] NO_ASKERS = {"-1, 0, 0", "10000, 0, 0", "0, -1, 0", "0, 10, 0", "0, 0, -1", "0, 0, 10"};

    TermsBounds(Check check, Sentences s) {
        super(check, s);
    }

    @Override
    void goThrough() {
        whatItIs();
        terms();
        whoAsks();
        switches();
        splits();
        ramps();
        layers();
        needs();
        rules();
        held();
        gets();
        reasons();
        asks();
        acts();
        means();
        sure();
        bad();
        trusted();
        exceptions();
        wouldBe();
    }

    private void whatItIs() {
        s.in("What it is");
        s.plain("An engine of switches and experiments.");
        s.holds("An object is used for at most 512 calls after it has been made; what later calls answer is free.", () -> {
            Caller clock = new Caller();
            for (int call = 1; call <= 512; call++) {
                check.dueText("goOn, call " + call, clock.answer("goOn(100)"), String.valueOf(100 * call));
            }
            Caller ramp = new Caller();
            ramp.answer("add(0, 2, false)");
            ramp.answer("ramp(0, 0, 1000)");
            for (int call = 3; call <= 509; call++) {
                ramp.answer("goOn(100)");
            }
            check.dueText("share, call 510", ramp.answer("share(0)"), "1000");
            check.dueText("shareIn, call 511", ramp.answer("shareIn(0, 1000)"), "1000");
            check.dueText("ramp, call 512", ramp.answer("ramp(0, 0, 0)"), "1000");
            Caller sum = new Caller();
            sum.answer("add(0, 2, false)");
            sum.answer("turn(0, true)");
            sum.answer("ask(0, 9999, 0, 0)");
            for (int call = 4; call <= 510; call++) {
                check.dueText("act, call " + call, sum.answer("act(9999, 100)"), "1");
            }
            check.dueText("told, call 511", sum.answer("told(0, 0, 2)"), "50700");
            check.dueText("mean, call 512", sum.answer("mean(0, 0)"), "50700.0");
            Caller refused = new Caller();
            for (int call = 1; call <= 512; call++) {
                String due = call <= 8 ? String.valueOf(call - 1) : "throws IllegalStateException";
                check.dueText("add, call " + call, refused.answer("add(5, 2, false)"), due);
            }
        });
        // The face as Java writes it is the matter of FaceTest.
        s.skip("The public face");
    }

    private void terms() {
        s.in("Terms");
        s.plain("Its calls: switches are told, each with variants and their weights, with rules that look at who asks, with a"
            + " ramp that grows as time goes, with a range of a layer of its own, and with another switch that must tell"
            + " something first; people ask, are shown something, and do something worth a number; and one asks who gets"
            + " what, why, how many would change if something was otherwise, and which variant does best, by how much, and"
            + " whether the numbers can be trusted.", "All numbers are whole, if nothing else is said;");
        s.holds("/ is cut towards 0.", () -> {
            // USER / 10 % 10 is 0 up to USER 9, and 9 up to USER 99.
            run().calls("""
                add(60, 2, false)
                turn(0, true)
                rule(0, 1, 2, 1, 1)
                reach(0, 1, 10) = 0
                reach(0, 1, 11) = 1
                reach(0, 1, 20) = 10
                reach(0, 1, 110) = 10
                reach(0, 1, 111) = 11
                """);
            // BAD of one ARM: 0.008 and 0.9, 0.04 and 1.9, and 2.0.
            Arms.of(check, 1).does("weigh(0, 1, 9)").due("bad(0)", 0).does("weigh(0, 1, 19)").due("bad(0)", 1)
                .does("weigh(0, 1, 20)").due("bad(0)", 2);
        });
        s.holds("NONE is -1.", () -> run().calls("""
            add(1, 2, false)
            place(0, -1, 5, 5) = -1
            place(0, 0, 5, 5) = -1
            place(0, -2, 5, 5) throws IllegalArgumentException
            need(0, -1, 5) = -1
            need(0, -2, 0) throws IndexOutOfBoundsException
            holds(0, 5, 5, 5) = -1
            rule(0, 0, 2, 5, -1) = 1
            rule(0, 0, 2, 5, -2) throws IndexOutOfBoundsException
            arm(0, 5) = -1
            best(0) = -1
            """));
        s.holds("The CLOCK is 0 at first.", () -> run().due("goOn(1)", 1));
    }

    private void whoAsks() {
        s.in("1. Who asks");
        s.holds("A USER has a number, 0 to 9999, and two MARKS, 0 to 9 each, which are told with each question.", () -> {
            Run run = run().does("add(" + SALT + ", 2, false)").does("turn(0, true)");
            for (String call : new String[] {"gets", "why", "holds", "ask"}) {
                run.range(call + "(0, $, 0, 9)", 0, 9999, Check.ARGUMENT);
                run.range(call + "(0, 0, $, 9)", 0, 9, Check.ARGUMENT);
                run.range(call + "(0, 9999, 0, $)", 0, 9, Check.ARGUMENT);
            }
            run.range("act($, 0)", 0, 9999, Check.ARGUMENT).range("arm(0, $)", 0, 9999, Check.ARGUMENT);
            run.range("bucket(0, $)", 0, 9999, Check.ARGUMENT);
        });
        s.holds("The BUCKET of a USER by a SALT (0 to 999) is: h = (SALT * 7919 + USER * 31 + 17) % 10007, then"
            + " k = (h * h + SALT + 3 * USER) % 10007, then k % 1000.", () -> {
            // In their order: h is 10006, h is 0, k is 0, 10006, 999, 1000, 9999 and 10000.
            run().range("bucket($, 9999)", 0, 999, Check.ARGUMENT).calls("""
                bucket(0, 9038) = 101
                bucket(0, 7424) = 258
                bucket(0, 1821) = 0
                bucket(0, 2486) = 6
                bucket(28, 7163) = 999
                bucket(14, 4254) = 0
                bucket(7, 3837) = 999
                bucket(0, 5701) = 0
                """);
            Caller x = new Caller();
            for (int salt = 0; salt < 1000; salt++) {
                for (int user : new int[] {0, 9999, 10 * salt}) {
                    x = x.calls() < 512 ? x : new Caller();
                    String call = "bucket(" + salt + ", " + user + ")";
                    check.dueText(call, x.answer(call), String.valueOf(Users.bucket(salt, user)));
                }
            }
        });
    }

    private void switches() {
        s.in("2. Switches");
        s.holds("At most 8 SWITCHES, numbered from 0;", () -> run().calls("""
            turn(0, true) throws IndexOutOfBoundsException
            add(1, 2, false) = 0
            add(1, 2, false) = 1
            add(1, 2, false) = 2
            add(1, 2, false) = 3
            add(1, 2, false) = 4
            add(1, 2, false) = 5
            add(1, 2, false) = 6
            turn(7, true) throws IndexOutOfBoundsException
            add(1, 2, false) = 7
            turn(7, true) = false
            turn(0, true) = false
            turn(8, true) throws IndexOutOfBoundsException
            turn(-1, true) throws IndexOutOfBoundsException
            add(1, 2, false) throws IllegalStateException
            """));
        s.plain("each has a SALT,");
        s.holds("2 to 4 VARIANTS, numbered from 0,", () -> run().range("add(9, $, true)", 2, 4, Check.ARGUMENT).calls("""
            add(9, 2, false)
            weight(0, -1) throws IndexOutOfBoundsException
            weight(0, 0) = 1000
            weight(0, 1) = 0
            weight(0, 2) throws IndexOutOfBoundsException
            add(9, 4, false)
            weight(1, 3) = 0
            weight(1, 4) throws IndexOutOfBoundsException
            """));
        s.holds("with WEIGHTS (0 to 1000 each, 1000 in all; all in the VARIANT 0 at first),", () -> run().calls("""
            add(9, 4, false)
            weight(0, 0) = 1000
            weight(0, 1) = 0
            weight(0, 2) = 0
            weight(0, 3) = 0
            weigh(0, 1, -1) throws IllegalArgumentException
            weigh(0, 1, 1001) throws IllegalArgumentException
            weigh(0, 1, 1000) = 0
            weigh(0, 2, 1) throws IllegalArgumentException
            weigh(0, 1, 333) = 667
            weigh(0, 2, 333) = 334
            weigh(0, 3, 335) throws IllegalArgumentException
            weigh(0, 3, 334) = 0
            weight(0, 0) = 0
            weight(0, 1) = 333
            weight(0, 2) = 333
            weight(0, 3) = 334
            weigh(0, 1, 0) = 333
            """));
        s.holds("and is ON or OFF (OFF at first).", () -> run().calls("""
            add(9, 2, false)
            weigh(0, 1, 1000)
            gets(0, 0, 0, 0) = 0
            why(0, 0, 0, 0) = 0
            turn(0, true) = false
            gets(0, 0, 0, 0) = 1
            turn(0, false) = true
            gets(0, 0, 0, 0) = 0
            """));
    }

    private void splits() {
        s.holds("SPLIT: a USER gets the VARIANT v for which the BUCKET by the SALT of the SWITCH is not below the sum of the"
            + " WEIGHTS ahead of v, and below that with the WEIGHT of v.", () -> {
            splitsAt(0, new int[] {1000, 0, 0, 0}, new int[][] {{0, 0}, {999, 0}});
            splitsAt(498, new int[] {999, 0, 0, 1}, new int[][] {{0, 0}, {998, 0}, {999, 3}});
            splitsAt(77, new int[] {1, 999, 0, 0}, new int[][] {{0, 0}, {1, 1}, {999, 1}});
            splitsAt(77, new int[] {0, 1, 998, 1}, new int[][] {{0, 1}, {1, 2}, {998, 2}, {999, 3}});
            splitsAt(77, new int[] {500, 300, 200, 0}, new int[][] {{499, 0}, {500, 1}, {799, 1}, {800, 2}, {999, 2}});
            splitsAt(77, new int[] {400, 0, 0, 600}, new int[][] {{399, 0}, {400, 3}});
            splitsAt(77, new int[] {0, 0, 0, 1000}, new int[][] {{0, 3}, {999, 3}});
        });
    }

    /** The BUCKETS, each with the VARIANT that is due of a SWITCH with the WEIGHTS. */
    private void splitsAt(int salt, int[] weights, int[][] dues) {
        Run run = run().does("add(" + salt + ", 4, false)").does("turn(0, true)");
        for (int variant = 1; variant < 4; variant++) {
            run.does("weigh(0, " + variant + ", " + weights[variant] + ")");
        }
        run.due("weight(0, 0)", weights[0]);
        for (int[] due : dues) {
            String asker = "(0, " + Users.at(salt, due[0]) + ", 0, 0)";
            run.due("gets" + asker, due[1]).due("why" + asker, 8);
        }
    }

    private void ramps() {
        s.holds("RAMP: a SHARE at first, 0 to 1000 (1000), a STEP, 0 to 1000 (0), and the CLOCK at which it was set:", () -> {
            run().calls("""
                add(1, 2, false)
                share(0) = 1000
                ramp(0, -1, 0) throws IllegalArgumentException
                ramp(0, 1001, 0) throws IllegalArgumentException
                ramp(0, 0, -1) throws IllegalArgumentException
                ramp(0, 0, 1001) throws IllegalArgumentException
                ramp(0, 0, 0)
                share(0) = 0
                ramp(0, 1000, 1000)
                share(0) = 1000
                goOn(50)
                ramp(0, 0, 1)
                share(0) = 0
                goOn(2)
                share(0) = 2
                """);
        });
        s.holds("SHARE + STEP for each tick since then, 1000 at most, is how far it is.", () -> run().calls("""
            add(1, 2, false)
            add(2, 2, false)
            goOn(3)
            ramp(0, 997, 1)
            share(0) = 997
            goOn(2)
            share(0) = 999
            goOn(1)
            share(0) = 1000
            goOn(1)
            share(0) = 1000
            goOn(100)
            share(0) = 1000
            ramp(1, 1, 998)
            goOn(1)
            share(1) = 999
            goOn(1)
            share(1) = 1000
            ramp(1, 1, 999)
            goOn(1)
            share(1) = 1000
            """));
        s.holds("A USER is IN the RAMP, if the BUCKET by SALT + 1 is below that.", () -> {
            for (int salt : new int[] {0, SALT, 498}) {
                isInRamp(salt, 0, 0, false);
                isInRamp(salt, 1, 0, true);
                isInRamp(salt, 1, 1, false);
                isInRamp(salt, 999, 998, true);
                isInRamp(salt, 999, 999, false);
                isInRamp(salt, 1000, 999, true);
            }
        });
    }

    private void isInRamp(int salt, int far, int bucket, boolean isIn) {
        String asker = "(0, " + Users.at(salt + 1, bucket) + ", 0, 0)";
        run().does("add(" + salt + ", 2, false)").does("turn(0, true)").does("weigh(0, 1, 1000)")
            .does("ramp(0, " + far + ", 0)").due("why" + asker, isIn ? 8 : 6).due("gets" + asker, isIn ? 1 : 0);
    }

    private void layers() {
        s.holds("LAYERS: there are 3, 0 to 2;", () -> run().does("add(1, 2, false)")
            .range("left($)", 0, 2, Check.INDEX).range("place(0, $, 5, 6)", -1, 2, Check.ARGUMENT).calls("""
                left(0) = 1000
                left(1) = 1000
                left(2) = 1000
                """));
        s.holds("a SWITCH can be in one, with a range of BUCKETS of it, from one on up to, but without, another one"
            + " (0 to 1000);", () -> {
            run().calls("""
                add(1, 2, false)
                place(0, 0, 0, 1000) = -1
                place(0, 1, 5, 7) = 0
                left(0) = 1000
                left(1) = 998
                place(0, 1, 0, 1) = 1
                left(1) = 999
                place(0, 1, -1, 1) throws IllegalArgumentException
                place(0, 1, 999, 1001) throws IllegalArgumentException
                """);
            isInLayer(0, 200, 700, 199, false);
            isInLayer(0, 200, 700, 200, true);
            isInLayer(0, 200, 700, 699, true);
            isInLayer(0, 200, 700, 700, false);
            isInLayer(0, 200, 201, 200, true);
            isInLayer(0, 200, 200, 200, false);
        });
        s.holds("ranges of one LAYER have nothing in common (one without BUCKETS has nothing in common with any).", () ->
            run().calls("""
                add(1, 2, false)
                add(2, 2, false)
                add(3, 2, false)
                place(0, 1, 300, 301)
                place(1, 1, 300, 301) throws IllegalStateException
                place(1, 1, 0, 301) throws IllegalStateException
                place(1, 1, 300, 1000) throws IllegalStateException
                place(1, 1, 0, 300)
                place(2, 1, 301, 1000)
                left(1) = 0
                place(2, 1, 150, 150)
                place(2, 1, 300, 300)
                place(1, 1, 200, 200)
                place(0, 1, 0, 1000)
                left(1) = 0
                """));
        s.holds("A USER is IN the LAYER of the SWITCH, if the BUCKET by 500 + LAYER is in the range, or the SWITCH is in"
            + " none.", () -> {
            for (int layer = 0; layer < 3; layer++) {
                isInLayer(layer, 0, 1, 0, true);
                isInLayer(layer, 0, 1, 1, false);
                isInLayer(layer, 999, 1000, 999, true);
                isInLayer(layer, 999, 1000, 998, false);
                isInLayer(layer, 0, 1000, 999, true);
                isInLayer(layer, 0, 0, 0, false);
                isInLayer(layer, 1000, 1000, 999, false);
            }
            run().calls("""
                add(1, 2, false)
                turn(0, true)
                why(0, 5, 0, 0) = 8
                place(0, 1, 0, 0)
                why(0, 5, 0, 0) = 5
                place(0, -1, 0, 0)
                why(0, 5, 0, 0) = 8
                """);
        });
    }

    private void isInLayer(int layer, int from, int to, int bucket, boolean isIn) {
        String asker = "(0, " + Users.at(500 + layer, bucket) + ", 0, 0)";
        run().does("add(" + SALT + ", 2, false)").does("turn(0, true)").does("weigh(0, 1, 1000)")
            .does("place(0, " + layer + ", " + from + ", " + to + ")")
            .due("why" + asker, isIn ? 8 : 5).due("gets" + asker, isIn ? 1 : 0);
    }

    private void needs() {
        s.holds("NEED: another SWITCH with a smaller number, and a VARIANT of it, can be needed.", () -> run().calls("""
            add(1, 4, false)
            add(2, 3, false)
            add(3, 2, false)
            need(0, 0, 0) throws IllegalArgumentException
            need(0, 1, 0) throws IllegalArgumentException
            need(1, 0, 3) = -1
            need(1, 0, 4) throws IndexOutOfBoundsException
            need(1, 1, 0) throws IllegalArgumentException
            need(1, 2, 0) throws IllegalArgumentException
            need(2, 0, 0) = -1
            need(2, 1, 2) = 0
            need(2, 1, 3) throws IndexOutOfBoundsException
            need(2, 1, -1) throws IndexOutOfBoundsException
            """));
    }

    private void rules() {
        s.holds("RULES: at most 5 for each SWITCH, in order;", () -> run().calls("""
            add(1, 2, false)
            add(2, 2, false)
            rule(0, 0, 2, 1, 0) = 1
            rule(0, 0, 3, 0, 1) = 2
            rule(0, 0, 3, 0, 0) = 3
            rule(0, 0, 3, 0, 0) = 4
            rule(0, 0, 2, 0, 1) = 5
            rule(0, 0, 2, 0, 1) throws IllegalStateException
            rule(1, 0, 2, 0, 1) = 1
            turn(0, true)
            holds(0, 5, 1, 0) = 0
            gets(0, 5, 1, 0) = 0
            holds(0, 5, 2, 0) = 1
            gets(0, 5, 2, 0) = 1
            holds(0, 5, 0, 0) = 4
            gets(0, 5, 0, 0) = 1
            """));
        s.holds("each tells a MARK (0 or 1),", () -> run().does("add(1, 2, false)")
            .range("rule(0, $, 2, 5, 1)", 0, 1, Check.ARGUMENT).calls("""
                rule(0, 0, 2, 5, 1)
                rule(0, 1, 2, 5, 1)
                holds(0, 9, 5, 0) = 0
                holds(0, 9, 0, 5) = 1
                holds(0, 9, 0, 0) = -1
                """));
        s.holds("whether that must be less than, equal to, or greater than a number n, 0 to 9,", () -> {
            run().does("add(1, 2, false)").range("rule(0, 0, $, 5, 1)", 1, 3, Check.ARGUMENT)
                .range("rule(0, 0, 2, $, 1)", 0, 9, Check.ARGUMENT);
            for (int how = 1; how <= 3; how++) {
                for (int n : new int[] {0, 1, 8, 9}) {
                    Run run = run().does("add(1, 2, false)").does("rule(0, 1, " + how + ", " + n + ", 1)");
                    for (int mark = 0; mark < 10; mark++) {
                        boolean isMet = how == 1 ? mark < n : how == 2 ? mark == n : mark > n;
                        run.due("holds(0, 5, 5, " + mark + ")", isMet ? 0 : -1);
                    }
                }
            }
        });
        s.holds("and what comes of it: a VARIANT, or SPLIT (told as NONE).", () -> run().calls("""
            add(1, 3, false)
            turn(0, true)
            weigh(0, 1, 1000)
            rule(0, 0, 2, 0, 0)
            rule(0, 0, 2, 1, 2)
            rule(0, 0, 2, 2, -1)
            rule(0, 0, 2, 2, 3) throws IndexOutOfBoundsException
            rule(0, 0, 2, 2, -2) throws IndexOutOfBoundsException
            gets(0, 5, 0, 0) = 0
            gets(0, 5, 1, 0) = 2
            gets(0, 5, 2, 0) = 1
            why(0, 5, 2, 0) = 8
            """));
    }

    private void held() {
        s.holds("HELD: a USER is HELD, if the BUCKET by 999 is below the HOLDOUT (0 to 1000; 0 at first).", () -> {
            run().due("hold(0)", 0).range("hold($)", 0, 1000, Check.ARGUMENT);
            isHeld(0, 0, false);
            isHeld(1, 0, true);
            isHeld(1, 1, false);
            isHeld(50, 49, true);
            isHeld(50, 50, false);
            isHeld(999, 998, true);
            isHeld(999, 999, false);
            isHeld(1000, 999, true);
        });
    }

    private void isHeld(int holdout, int bucket, boolean isHeld) {
        String asker = "(0, " + Users.at(999, bucket) + ", 0, 0)";
        run().does("add(" + SALT + ", 2, false)").does("turn(0, true)").does("weigh(0, 1, 1000)").due("why" + asker, 8)
            .does("hold(" + holdout + ")").due("why" + asker, isHeld ? 4 : 8).due("gets" + asker, isHeld ? 0 : 1);
    }

    private void gets() {
        s.holds("What a USER GETS of a SWITCH, with the REASON, is the first of these that applies:", () -> {
            // All of them apply at first, then all but the first one, and so on. USER 123 has an ARM, USER 124 has none.
            run().calls("""
                add(5, 2, false)
                add(40, 3, true)
                weigh(1, 1, 1000)
                turn(1, true)
                ask(1, 123, 4, 4) = 1
                turn(1, false)
                need(1, 0, 1)
                rule(1, 0, 2, 4, 2)
                hold(1000)
                place(1, 0, 0, 0)
                ramp(1, 0, 0)
                why(1, 123, 4, 0) = 0
                gets(1, 123, 4, 0) = 0
                turn(1, true)
                why(1, 123, 4, 0) = 1
                gets(1, 123, 4, 0) = 0
                need(1, -1, 0)
                why(1, 123, 4, 0) = 2
                gets(1, 123, 4, 0) = 1
                why(1, 124, 4, 0) = 3
                gets(1, 124, 4, 0) = 2
                why(1, 124, 5, 0) = 4
                gets(1, 124, 5, 0) = 0
                hold(0)
                why(1, 124, 5, 0) = 5
                gets(1, 124, 5, 0) = 0
                place(1, -1, 0, 0)
                why(1, 124, 5, 0) = 6
                gets(1, 124, 5, 0) = 0
                ramp(1, 1000, 0)
                why(1, 124, 5, 0) = 7
                gets(1, 124, 5, 0) = 0
                unrule(1, 0)
                why(1, 124, 5, 0) = 8
                gets(1, 124, 5, 0) = 1
                """);
        });
    }

    private void reasons() {
        s.holds("0 it is OFF: VARIANT 0;", () -> run().calls("""
            add(5, 2, true)
            weigh(0, 1, 1000)
            turn(0, true)
            ask(0, 7, 0, 0) = 1
            rule(0, 0, 2, 0, 1)
            turn(0, false)
            why(0, 7, 0, 0) = 0
            gets(0, 7, 0, 0) = 0
            gets(0, 8, 0, 0) = 0
            """));
        s.holds("1 it needs another SWITCH, of which the USER (with the same MARKS) GETS another VARIANT than the one that is"
            + " needed: VARIANT 0;", this::needsAnother);
        s.holds("2 it is STICKY, and the USER has an ARM of it (see 3): that;", () -> {
            for (boolean isSticky : new boolean[] {true, false}) {
                run().does("add(5, 4, " + isSticky + ")").does("weigh(0, 3, 1000)").does("turn(0, true)")
                    .due("why(0, 7, 0, 0)", 8).due("ask(0, 7, 0, 0)", 3).due("why(0, 7, 0, 0)", isSticky ? 2 : 8)
                    .due("why(0, 8, 0, 0)", 8).does("weigh(0, 3, 0)").due("gets(0, 7, 0, 0)", isSticky ? 3 : 0)
                    .due("gets(0, 8, 0, 0)", 0).does("ask(0, 8, 0, 0)").does("weigh(0, 1, 1000)")
                    .due("gets(0, 8, 0, 0)", isSticky ? 0 : 1).due("why(0, 8, 0, 0)", isSticky ? 2 : 8);
            }
        });
        s.holds("3 the first RULE that holds tells a VARIANT: that;", () -> run().calls("""
            add(5, 4, false)
            weigh(0, 1, 1000)
            turn(0, true)
            rule(0, 0, 2, 1, 0)
            rule(0, 0, 2, 2, -1)
            rule(0, 0, 1, 3, 3)
            rule(0, 1, 2, 9, 2)
            why(0, 7, 1, 9) = 3
            gets(0, 7, 1, 9) = 0
            why(0, 7, 2, 9) = 8
            gets(0, 7, 2, 9) = 1
            why(0, 7, 0, 9) = 3
            gets(0, 7, 0, 9) = 3
            gets(0, 7, 3, 9) = 2
            why(0, 7, 3, 8) = 7
            """));
        s.holds("4 the USER is HELD: VARIANT 0;", () -> {
            String asker = "(0, " + Users.at(999, 0) + ", 0, 0)";
            shownAll().due("gets" + asker, 1).does("hold(1)").due("why" + asker, 4).due("gets" + asker, 0);
        });
        s.holds("5 the USER is not IN its LAYER: VARIANT 0;", () -> shownAll().calls("""
            place(0, 2, 0, 1000)
            gets(0, 7, 0, 0) = 1
            place(0, 2, 0, 0)
            why(0, 7, 0, 0) = 5
            gets(0, 7, 0, 0) = 0
            """));
        s.holds("6 the USER is not IN its RAMP: VARIANT 0;", () -> shownAll().calls("""
            ramp(0, 0, 1000)
            why(0, 7, 0, 0) = 6
            gets(0, 7, 0, 0) = 0
            goOn(1)
            why(0, 7, 0, 0) = 8
            gets(0, 7, 0, 0) = 1
            """));
        s.holds("7 it has RULES, and none holds: VARIANT 0;", () -> shownAll().calls("""
            why(0, 7, 5, 5) = 8
            rule(0, 0, 2, 4, -1)
            why(0, 7, 5, 5) = 7
            gets(0, 7, 5, 5) = 0
            why(0, 7, 4, 5) = 8
            rule(0, 1, 2, 5, -1)
            why(0, 7, 5, 5) = 8
            why(0, 7, 5, 4) = 7
            unrule(0, 1)
            unrule(0, 0)
            why(0, 7, 5, 5) = 8
            """));
        s.holds("otherwise 8: SPLIT.", () -> shownAll().calls("""
            why(0, 0, 0, 0) = 8
            gets(0, 0, 0, 0) = 1
            why(0, 9999, 9, 9) = 8
            gets(0, 9999, 9, 9) = 1
            weigh(0, 1, 0)
            why(0, 0, 0, 0) = 8
            gets(0, 0, 0, 0) = 0
            """));
    }

    /** A SWITCH that tells VARIANT 1 to all. */
    private Run shownAll() {
        return run().does("add(" + SALT + ", 2, false)").does("turn(0, true)").does("weigh(0, 1, 1000)");
    }

    private void needsAnother() {
        run().calls("""
            add(5, 4, false)
            add(9, 2, false)
            weigh(1, 1, 1000)
            turn(1, true)
            need(1, 0, 0)
            gets(1, 7, 0, 0) = 1
            need(1, 0, 3)
            why(1, 7, 0, 0) = 1
            gets(1, 7, 0, 0) = 0
            turn(0, true)
            rule(0, 0, 2, 9, 3)
            rule(0, 1, 2, 8, 3)
            why(1, 7, 9, 0) = 8
            why(1, 7, 0, 8) = 8
            why(1, 7, 8, 9) = 1
            need(1, 0, 2)
            why(1, 7, 9, 0) = 1
            need(1, -1, 0)
            why(1, 7, 9, 0) = 8
            """);
        Run chain = run();
        for (int one = 0; one < 8; one++) {
            chain.does("add(" + one + ", 2, false)").does("turn(" + one + ", true)").does("weigh(" + one + ", 1, 1000)");
            if (one > 0) {
                chain.does("need(" + one + ", " + (one - 1) + ", 1)");
            }
        }
        chain.calls("""
            gets(7, 7, 0, 0) = 1
            turn(0, false)
            gets(7, 7, 0, 0) = 0
            why(7, 7, 0, 0) = 1
            why(1, 7, 0, 0) = 1
            need(7, 6, 0)
            gets(7, 7, 0, 0) = 1
            """);
    }

    private void asks() {
        s.in("3. What happens");
        s.holds("A USER who ASKS a SWITCH is SHOWN what that USER GETS;", () -> {
            Run run = busy();
            for (int one = 0; one < Scenes.BUSY; one++) {
                for (int user : new int[] {0, 5, 11, 9999}) {
                    String asker = "(" + one + ", " + user + ", 4, 4)";
                    run.due("ask" + asker, run.answer("gets" + asker));
                }
            }
        });
        s.holds("the first VARIANT of a SWITCH that a USER was SHOWN with REASON 8 is that USER's ARM of it;", () -> {
            run().calls("""
                add(60, 3, false)
                ask(0, 9, 0, 0) = 0
                arm(0, 9) = -1
                turn(0, true)
                rule(0, 0, 2, 0, 2)
                ask(0, 9, 0, 0) = 2
                arm(0, 9) = -1
                ask(0, 9, 1, 0) = 0
                arm(0, 9) = -1
                unrule(0, 0)
                hold(1000)
                ask(0, 9, 0, 0) = 0
                arm(0, 9) = -1
                hold(0)
                place(0, 0, 0, 0)
                ask(0, 9, 0, 0) = 0
                arm(0, 9) = -1
                place(0, -1, 0, 0)
                ramp(0, 0, 0)
                ask(0, 9, 0, 0) = 0
                arm(0, 9) = -1
                ramp(0, 1000, 0)
                gets(0, 9, 0, 0) = 0
                why(0, 9, 0, 0) = 8
                arms() = 0
                weigh(0, 1, 1000)
                ask(0, 9, 0, 0) = 1
                arm(0, 9) = 1
                arms() = 1
                weigh(0, 1, 0)
                ask(0, 9, 0, 0) = 0
                arm(0, 9) = 1
                arms() = 1
                told(0, 0, 0) = 0
                told(0, 1, 0) = 1
                """);
            // What is needed is not SHOWN.
            run().calls("""
                add(60, 2, false)
                add(70, 2, false)
                turn(0, true)
                turn(1, true)
                need(1, 0, 1)
                ask(1, 9, 0, 0) = 0
                arms() = 0
                need(1, 0, 0)
                ask(1, 9, 0, 0) = 0
                arm(1, 9) = 0
                arm(0, 9) = -1
                """);
        });
        s.holds("at most 100 ARMS are kept, over all SWITCHES (then no more come to be).", () -> {
            Run run = run().does("add(60, 2, true)").does("add(61, 2, true)").does("turn(0, true)").does("turn(1, true)");
            for (int user = 0; user < 60; user++) {
                run.does("ask(0, " + user + ", 0, 0)");
            }
            for (int user = 0; user < 39; user++) {
                run.does("ask(1, " + user + ", 0, 0)");
            }
            run.calls("""
                arms() = 99
                ask(1, 39, 0, 0) = 0
                arms() = 100
                arm(1, 39) = 0
                why(1, 39, 0, 0) = 2
                ask(1, 40, 0, 0) = 0
                ask(0, 60, 0, 0) = 0
                arms() = 100
                arm(1, 40) = -1
                arm(0, 60) = -1
                why(1, 40, 0, 0) = 8
                told(0, 0, 0) = 60
                told(1, 0, 0) = 40
                act(39, 1) = 2
                act(40, 1) = 1
                act(60, 1) = 0
                """);
            full().due("arms()", 100).does("ask(3, 50, 0, 0)").does("ask(4, 9999, 0, 0)").due("arms()", 100)
                .due("arm(3, 50)", -1).due("arm(4, 9999)", -1);
        });
    }

    private void acts() {
        s.holds("A USER who ACTS, worth a number from 0 to 100, adds it to the SUM of that USER's ARM of each SWITCH for which"
            + " there is one, and that ARM has ACTED.", () -> {
            Run run = run().calls("""
                add(60, 2, false)
                add(70, 2, false)
                add(80, 2, false)
                turn(0, true)
                turn(1, true)
                turn(2, true)
                act(9, 100) = 0
                ask(0, 9, 0, 0)
                ask(1, 9, 0, 0)
                ask(2, 8, 0, 0)
                told(0, 0, 1) = 0
                told(0, 0, 2) = 0
                act(9, 0) = 2
                told(0, 0, 1) = 1
                told(0, 0, 2) = 0
                act(9, 100) = 2
                act(9, 1) = 2
                told(0, 0, 1) = 1
                told(0, 0, 2) = 101
                told(1, 0, 1) = 1
                told(1, 0, 2) = 101
                told(2, 0, 1) = 0
                told(2, 0, 2) = 0
                """);
            run.range("act(9, $)", 0, 100, Check.ARGUMENT);
        });
        s.holds("Of an ARM with the SUM s the SQUARE is s * s.", () -> run().calls("""
            add(60, 2, false)
            turn(0, true)
            ask(0, 9, 0, 0)
            told(0, 0, 3) = 0
            act(9, 0)
            told(0, 0, 3) = 0
            act(9, 1)
            told(0, 0, 3) = 1
            act(9, 100)
            told(0, 0, 3) = 10201
            act(9, 0)
            told(0, 0, 3) = 10201
            act(9, 1)
            told(0, 0, 3) = 10404
            """));
        s.holds("Of a VARIANT of a SWITCH: COUNT is how many ARMS are of it, ACTED how many of these have ACTED, SUM and SQUARES"
            + " are theirs in all.", () -> Arms.of(check, 2, 0, 3).calls("""
                act(200, 7)
                act(200, 5)
                act(201, 0)
                act(0, 100)
                told(0, 0, 0) = 2
                told(0, 0, 1) = 1
                told(0, 0, 2) = 100
                told(0, 0, 3) = 10000
                told(0, 1, 0) = 0
                told(0, 1, 1) = 0
                told(0, 1, 2) = 0
                told(0, 1, 3) = 0
                told(0, 2, 0) = 3
                told(0, 2, 1) = 2
                told(0, 2, 2) = 12
                told(0, 2, 3) = 144
                act(202, 9)
                told(0, 2, 1) = 3
                told(0, 2, 2) = 21
                told(0, 2, 3) = 225
                """));
    }

    private void means() {
        s.holds("MEAN is SUM / COUNT, not cut (0 without any).", () -> {
            Arms.of(check, 3, 1).due("mean(0, 0)", 0.0).due("mean(0, 3)", 0.0).does("act(0, 1)").due("mean(0, 0)", 1.0 / 3)
                .does("act(2, 1)").due("mean(0, 0)", 2.0 / 3).does("act(100, 100)").due("mean(0, 1)", 100.0);
        });
        s.holds("SPREAD is SQUARES / COUNT - MEAN * MEAN, not cut (0 without any).", () -> {
            // SURE is LIFT * LIFT / (SPREAD / 3) here, as the one ARM of VARIANT 0 has none.
            double mean = 2.0 / 3;
            double spread = 2.0 / 3 - mean * mean;
            Arms.of(check, 1, 3).does("act(100, 1)").does("act(101, 1)").due("sure(0, 1)", mean * mean / (spread / 3))
                .does("act(102, 1)").due("sure(0, 1)", 0.0);
        });
        s.holds("LIFT of a VARIANT: its MEAN less that of the VARIANT 0.", () -> {
            Arms.of(check, 2, 1).calls("""
                lift(0, 0) = 0.0
                lift(0, 1) = 0.0
                lift(0, 2) = 0.0
                act(0, 5)
                lift(0, 0) = 0.0
                lift(0, 1) = -2.5
                lift(0, 2) = -2.5
                act(100, 100)
                lift(0, 1) = 97.5
                """);
            Arms.of(check, 0, 1).does("act(100, 100)").due("lift(0, 1)", 100.0).due("lift(0, 0)", 0.0);
        });
    }

    private void sure() {
        s.holds("SURE is how sure that is: LIFT * LIFT, divided by SPREAD / COUNT of it + SPREAD / COUNT of the VARIANT 0"
            + " (reckoned in this order, nothing cut);", () -> {
            double mean0 = 5.0 / 3;
            double mean1 = 33.0 / 4;
            double lift = mean1 - mean0;
            double divisor = (509.0 / 4 - mean1 * mean1) / 4 + (9.0 / 3 - mean0 * mean0) / 3;
            Arms.of(check, 3, 4).does("act(0, 1)").does("act(1, 2)").does("act(2, 2)").does("act(100, 10)").does("act(101, 20)")
                .does("act(102, 3)").due("sure(0, 1)", lift * lift / divisor).due("sure(0, 0)", 0.0);
            // A LIFT below 0 is as sure as one above.
            Arms.of(check, 2, 2).does("act(0, 4)").due("sure(0, 1)", 4.0 / 2).does("act(100, 8)").due("sure(0, 1)", 4.0 / 10);
        });
        s.holds("0 if one of both has no ARMS, or the divisor is 0.", () -> {
            Arms.of(check, 2, 0).does("act(0, 5)").due("sure(0, 1)", 0.0).due("sure(0, 0)", 0.0);
            Arms.of(check, 0, 2).does("act(100, 5)").due("sure(0, 1)", 0.0).due("sure(0, 0)", 0.0).due("sure(0, 2)", 0.0);
            Arms.of(check, 1, 1).due("sure(0, 1)", 0.0).does("act(100, 100)").due("lift(0, 1)", 100.0).due("sure(0, 1)", 0.0);
            Arms.of(check, 2, 2).does("act(100, 5)").does("act(101, 5)").due("sure(0, 1)", 0.0).does("act(0, 2)")
                .due("sure(0, 1)", 16.0 / (1.0 / 2)).does("act(1, 2)").due("sure(0, 1)", 0.0);
        });
    }

    private void bad() {
        s.holds("BAD is how far the ARMS of a SWITCH are from its WEIGHTS: with n as how many there are of it, the sum, over"
            + " all VARIANTS with a WEIGHT above 0, of (COUNT * 1000 - n * WEIGHT) * (COUNT * 1000 - n * WEIGHT) / (n * WEIGHT"
            + " * 10), each cut, nothing wraps (100 times what is called chi square);", () -> {
            badOf(new int[] {3}, 1000, 0, 0, 0);
            badOf(new int[] {3}, 500, 500, 0, 0);
            badOf(new int[] {3, 1}, 500, 500, 0, 0);
            badOf(new int[] {2, 1, 4}, 333, 333, 334, 0);
            badOf(new int[] {0, 1}, 999, 1, 0, 0);
            badOf(new int[] {1}, 0, 0, 0, 1000);
            badOf(new int[] {1, 1, 1, 1}, 1, 1, 1, 997);
            badOf(new int[] {50, 50}, 999, 1, 0, 0);
            badOf(new int[] {100}, 1, 999, 0, 0);
            badOf(new int[] {100}, 1, 1, 1, 997);
            // Of two SWITCHES each has its own n.
            Arms.of(check, 3).calls("""
                add(70, 2, false)
                turn(1, true)
                weigh(0, 1, 500)
                bad(0) = 300
                ask(1, 0, 0, 0)
                bad(0) = 300
                weigh(1, 1, 500)
                bad(1) = 100
                """);
        });
        s.holds("0 without ARMS.", () -> run().calls("""
            add(60, 4, false)
            bad(0) = 0
            weigh(0, 1, 1000)
            bad(0) = 0
            weigh(0, 1, 500)
            bad(0) = 0
            add(70, 2, false)
            turn(1, true)
            ask(1, 0, 0, 0)
            bad(0) = 0
            """));
    }

    private void badOf(int[] counts, int... weights) {
        long n = 0;
        for (int count : counts) {
            n += count;
        }
        long due = 0;
        Run run = Arms.of(check, counts);
        for (int variant = 0; variant < 4; variant++) {
            long weight = weights[variant];
            long off = (variant < counts.length ? counts[variant] : 0) * 1000L - n * weight;
            due += weight == 0 ? 0 : off * off / (n * weight * 10);
            if (variant > 0) {
                run.does("weigh(0, " + variant + ", " + weight + ")");
            }
        }
        run.due("bad(0)", due);
    }

    private void trusted() {
        s.holds("They can be TRUSTED, if no ARM is of a VARIANT with a WEIGHT of 0,", () -> {
            run().does("add(60, 2, false)").due("isTrusted(0)", true);
            // BAD is far below what is allowed.
            Arms.of(check, 30, 1).due("bad(0)", 3).due("isTrusted(0)", false).does("weigh(0, 1, 33)")
                .due("isTrusted(0)", true).does("weigh(0, 1, 0)").due("isTrusted(0)", false);
            Arms.of(check, 1, 0, 0, 1).does("weigh(0, 3, 500)").due("isTrusted(0)", true).does("weigh(0, 3, 1000)")
                .due("isTrusted(0)", false);
        });
        s.holds("and BAD is at most 384 with 2 VARIANTS with a WEIGHT above 0, 599 with 3, 781 with 4 (anything with 1).", () -> {
            trustedAt(384, true, 2, 342, 658, 0, 0);
            trustedAt(385, false, 1, 206, 794, 0, 0);
            trustedAt(384, true, 2, 342, 0, 0, 658);
            trustedAt(385, false, 1, 206, 0, 0, 794);
            trustedAt(599, true, 2, 250, 57, 693, 0);
            trustedAt(600, false, 2, 250, 50, 700, 0);
            trustedAt(600, false, 2, 250, 0, 50, 700);
            trustedAt(781, true, 3, 277, 43, 43, 637);
            trustedAt(782, false, 1, 113, 29, 29, 829);
            trustedAt(454, true, 1, 180, 819, 1, 0);
            trustedAt(613, true, 1, 140, 858, 1, 1);
            trustedAt(0, true, 100, 1000, 0, 0, 0);
        });
    }

    /** So many ARMS of VARIANT 0, then the WEIGHTS. */
    private void trustedAt(int bad, boolean isTrusted, int arms, int... weights) {
        Run run = Arms.of(check, arms);
        for (int variant = 1; variant < 4; variant++) {
            run.does("weigh(0, " + variant + ", " + weights[variant] + ")");
        }
        run.due("weight(0, 0)", weights[0]).due("bad(0)", bad).due("isTrusted(0)", isTrusted);
    }

    private void exceptions() {
        s.holds("A method that throws an exception changes nothing.", () -> {
            // That nothing else is told after a refused call is looked at with each of them.
            busy().calls("""
                add(499, 2, false) throws IllegalArgumentException
                weigh(0, 1, 1001) throws IllegalArgumentException
                turn(4, true) throws IndexOutOfBoundsException
                ramp(0, 0, 1001) throws IllegalArgumentException
                ramp(0, 1001, 0) throws IllegalArgumentException
                place(0, 0, 0, 601) throws IllegalStateException
                place(0, 3, 0, 5) throws IllegalArgumentException
                place(0, 0, 6, 5) throws IllegalArgumentException
                need(1, 1, 0) throws IllegalArgumentException
                need(2, 1, 3) throws IndexOutOfBoundsException
                rule(1, 0, 2, 10, 1) throws IllegalArgumentException
                rule(1, 0, 2, 5, 3) throws IndexOutOfBoundsException
                unrule(1, 2) throws IndexOutOfBoundsException
                unrule(1, -1) throws IndexOutOfBoundsException
                hold(1001) throws IllegalArgumentException
                goOn(101) throws IllegalArgumentException
                goOn(0) throws IllegalArgumentException
                ask(1, 20, 10, 4) throws IllegalArgumentException
                ask(1, 20, 4, 10) throws IllegalArgumentException
                act(5, 101) throws IllegalArgumentException
                act(5, -1) throws IllegalArgumentException
                reach(0, 0, 201) throws IllegalArgumentException
                both(0, 1, 201) throws IllegalArgumentException
                wouldChange(0, 0, 201) throws IllegalArgumentException
                wouldTurn(0, 201) throws IllegalArgumentException
                shareIn(0, 1001) throws IllegalArgumentException
                """);
            full().refuses("add(0, 2, false)", Check.STATE).refuses("rule(0, 0, 2, 9, 0)", Check.STATE)
                .refuses("place(3, 2, 0, 1)", Check.STATE);
        });
        s.holds("If several exceptions apply, the one that is named first is thrown.", this::severalExceptions);
        s.plain("Ahead of the calls `add`, `weigh`, `turn`, `ramp`, `place`, `need`, `rule`, `unrule`, `hold`, `goOn`,"
            + " `switches`, `weight`, `share`, `left` the interface says: ---- switches.",
            "Ahead of the calls `bucket`, `gets`, `why`, `holds`, `ask`, `act`, `arm`, `arms` the interface says:"
            + " ---- who gets what.",
            "Ahead of the calls `told`, `mean`, `lift`, `sure`, `bad`, `isTrusted`, `best` the interface says:"
            + " ---- what came of it.");
    }

    private void severalExceptions() {
        refuseAll(full(), Check.ARGUMENT, "add(#, false)", "-1, 2", "499, 2", "0, 1", "0, 5");
        for (String none : new String[] {"4", "-1"}) {
            refuseAll(busy(), Check.INDEX, "weigh(" + none + ", #)", "0, 5", "1, -1", "1, 1001");
            refuseAll(busy(), Check.INDEX, "ramp(" + none + ", #)", "-1, 0", "1001, 0", "0, -1", "0, 1001");
            // From 300 on the range is taken as well.
            refuseAll(busy(), Check.INDEX, "place(" + none + ", #)", "-2, 0, 5", "3, 0, 5", "1, -1, 5", "1, 6, 5",
                "1, 0, 1001", "0, 300, 301", "0, 300, 1001");
            refuseAll(busy(), Check.INDEX, "rule(" + none + ", #, 0)", NO_RULES);
            for (String call : new String[] {"gets", "why", "holds", "ask"}) {
                refuseAll(busy(), Check.INDEX, call + "(" + none + ", #)", NO_ASKERS);
            }
            refuseAll(busy(), Check.INDEX, "arm(" + none + ", #)", "-1", "10000");
            refuseAll(busy(), Check.INDEX, "told(" + none + ", 0, #)", "-1", "4");
            refuseAll(busy(), Check.INDEX, "reach(" + none + ", 0, #)", "0", "201");
            refuseAll(busy(), Check.INDEX, "both(" + none + ", 0, #)", "0", "201");
            refuseAll(busy(), Check.INDEX, "both(0, " + none + ", #)", "0", "201");
            refuseAll(busy(), Check.INDEX, "wouldChange(" + none + ", #)", "-1, 5", "1001, 5", "5, 0", "5, 201");
            refuseAll(busy(), Check.INDEX, "wouldTurn(" + none + ", #)", "0", "201");
            refuseAll(busy(), Check.INDEX, "shareIn(" + none + ", #)", "-1", "1001");
        }
        for (String none : new String[] {"2", "-2"}) {
            refuseAll(busy(), Check.INDEX, "weigh(0, " + none + ", #)", "-1", "1001");
            refuseAll(busy(), Check.INDEX, "rule(0, #, " + none + ")", NO_RULES);
            refuseAll(busy(), Check.INDEX, "told(0, " + none + ", #)", "-1", "4");
            refuseAll(busy(), Check.INDEX, "reach(0, " + none + ", #)", "0", "201");
        }
        // Of another one that is not smaller there must be the VARIANT all the same.
        refuseAll(busy(), Check.INDEX, "need(#)", "0, 4, 0", "3, 4, 0", "0, 0, 2", "0, 3, 2", "1, 1, 3", "1, 1, -1", "0, 2, 4");
        refuseAll(busy(), Check.ARGUMENT, "place(#)", "1, 0, 300, 1001", "1, 0, -1, 300", "1, 0, 301, 300", "0, 0, -1, 1000");
        // There are 5 RULES.
        refuseAll(full(), Check.ARGUMENT, "rule(0, #, -1)", NO_RULES);
        refuseAll(full(), Check.INDEX, "rule(0, 0, 1, 0, #)", "2", "-2");
        refuseAll(full(), Check.INDEX, "rule(0, #, 2)", NO_RULES);
        refuseAll(full(), Check.INDEX, "#", "rule(8, 0, 1, 0, -1)", "place(8, 0, 0, 1)");
        refuseAll(full(), Check.ARGUMENT, "place(#)", "3, 1, 1000, 999", "3, 1, 0, 1001", "3, 0, -1, 5");
    }

    private static void refuseAll(Run run, Class<? extends RuntimeException> exception, String call, String... each) {
        for (String arguments : each) {
            run.refuses(call.replace("#", arguments), exception);
        }
    }

    private void wouldBe() {
        s.plain("Ahead of the calls `reach`, `both`, `wouldChange`, `wouldTurn`, `shareIn`, `digest` the interface says:"
            + " ---- what would be");
        s.holds("(nothing is changed):", () -> {
            for (Run run : new Run[] {busy(), full()}) {
                for (String call : new String[] {"reach(0, 1, 200)", "reach(1, 0, 1)", "both(0, 1, 200)", "both(3, 2, 200)",
                    "wouldChange(0, 0, 200)", "wouldChange(0, 1000, 200)", "wouldChange(3, 1, 200)", "wouldTurn(0, 200)",
                    "wouldTurn(1, 200)", "wouldTurn(3, 200)", "shareIn(0, 0)", "shareIn(0, 1000)", "digest()"}) {
                    run.changesNothing(call);
                }
            }
            run().changesNothing("digest()");
        });
        s.holds("USERS 0 to many - 1, each with the MARKS USER % 10 and USER / 10 % 10.", () -> {
            // One RULE for each MARK; the second SWITCH is for those whom both mean.
            for (int user : new int[] {0, 9, 10, 99, 100, 109, 190, 199}) {
                Run run = run().does("add(60, 2, false)").does("add(61, 2, false)").does("turn(0, true)")
                    .does("turn(1, true)").does("rule(0, 0, 2, " + user % 10 + ", 1)")
                    .does("rule(1, 1, 2, " + user / 10 % 10 + ", 1)").does("need(1, 0, 1)");
                int others = user >= 100 ? 1 : 0;
                run.due("reach(1, 1, " + (user + 1) + ")", others + 1);
                if (user > 0) {
                    run.due("reach(1, 1, " + user + ")", others);
                }
            }
            run().does("add(60, 2, false)").does("turn(0, true)").does("rule(0, 1, 2, 0, -1)").does("weigh(0, 1, 1000)")
                .due("reach(0, 1, 10)", 10).due("reach(0, 1, 100)", 10).due("reach(0, 1, 101)", 11)
                .due("both(0, 0, 200)", 20).due("wouldChange(0, 0, 200)", 20).due("wouldTurn(0, 200)", 20);
        });
    }
}
