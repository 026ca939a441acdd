/** Promises 1 to 15: the boundary cases of the switches as they are told and read back. */
final class SwitchesBounds extends Part {
    SwitchesBounds(Check check, Sentences s) {
        super(check, s);
    }

    @Override
    void goThrough() {
        newObject();
        add();
        weigh();
        turn();
        ramp();
        place();
        need();
        rule();
        unrule();
        hold();
        goOn();
        switches();
        weight();
        share();
        left();
    }

    private void newObject() {
        s.in("Promise 1: A new object");
        s.holds("Creates an engine without SWITCHES.", () -> run().calls("""
            switches() = 0
            share(0) throws IndexOutOfBoundsException
            arms() = 0
            left(0) = 1000
            left(1) = 1000
            left(2) = 1000
            digest() = 76927521737
            act(0, 100) = 0
            hold(0) = 0
            goOn(1) = 1
            add(0, 2, false) = 0
            """));
    }

    private void add() {
        s.in("Promise 2: add");
        s.plain("Adds a SWITCH.", "- `salt`: its SALT", "- `isSticky`: whether it is STICKY");
        s.holds("- `variants`: how many VARIANTS it has", () -> run().calls("""
            add(0, 2, false)
            weight(0, 1) = 0
            weight(0, 2) throws IndexOutOfBoundsException
            add(0, 3, false)
            weight(1, 2) = 0
            weight(1, 3) throws IndexOutOfBoundsException
            add(0, 4, false)
            weight(2, 3) = 0
            weight(2, 4) throws IndexOutOfBoundsException
            """));
        s.holds("Returns its number.", () -> {
            Run run = run();
            for (int one = 0; one < 8; one++) {
                run.due("add(" + one + ", 2, true)", one);
            }
        });
        s.holds("Throws `IllegalArgumentException` if salt is not 0 to 498, or variants is not 2 to 4", () -> {
            for (Run run : new Run[] {run(), busy()}) {
                run.range("add($, 2, false)", 0, 498, Check.ARGUMENT);
                run.range("add(5, $, true)", 2, 4, Check.ARGUMENT);
                run.refuses("add(5, 0, true)", Check.ARGUMENT).refuses("add(499, 1, true)", Check.ARGUMENT);
            }
            full().beyond("add($, 2, false)", 0, 498, Check.ARGUMENT).beyond("add(5, $, true)", 2, 4, Check.ARGUMENT);
        });
        s.holds("Throws `IllegalStateException` if there are 8", () -> {
            full().refuses("add(0, 2, false)", Check.STATE).refuses("add(498, 4, true)", Check.STATE);
            Run run = run();
            for (int one = 0; one < 7; one++) {
                run.does("add(3, 2, false)");
            }
            run.calls("""
                add(3, 2, false) = 7
                add(3, 2, false) throws IllegalStateException
                switches() = 8
                add(3, 2, false) throws IllegalStateException
                """);
        });
    }

    private void weigh() {
        s.in("Promise 3: weigh");
        s.plain(ONE);
        s.holds("Moves WEIGHT from the VARIANT 0 to another one.", () -> run().calls("""
            add(1, 3, false)
            weigh(0, 1, 1000) = 0
            weight(0, 0) = 0
            weight(0, 1) = 1000
            weight(0, 2) = 0
            weigh(0, 1, 0) = 1000
            weight(0, 0) = 1000
            weight(0, 1) = 0
            weigh(0, 2, 1) = 999
            weight(0, 0) = 999
            weight(0, 1) = 0
            weight(0, 2) = 1
            """));
        s.holds("- `variant`: the other VARIANT", () -> run().calls("""
            add(1, 4, false)
            weigh(0, 1, 100) = 900
            weigh(0, 3, 300) = 600
            weight(0, 1) = 100
            weight(0, 2) = 0
            weight(0, 3) = 300
            weigh(0, 0, 600) throws IllegalArgumentException
            """));
        s.holds("- `weight`: its WEIGHT from now on", () -> run().calls("""
            add(1, 2, false)
            weigh(0, 1, 600) = 400
            weigh(0, 1, 600) = 400
            weigh(0, 1, 601) = 399
            weigh(0, 1, 599) = 401
            weight(0, 1) = 599
            weigh(0, 1, 1000) = 0
            weigh(0, 1, 1000) = 0
            weigh(0, 1, 0) = 1000
            weigh(0, 1, 0) = 1000
            weight(0, 1) = 0
            """));
        s.holds("Returns the WEIGHT of the VARIANT 0 then.", () -> run().calls("""
            add(1, 4, false)
            weigh(0, 3, 0) = 1000
            weigh(0, 1, 333) = 667
            weigh(0, 2, 333) = 334
            weigh(0, 3, 334) = 0
            weigh(0, 2, 0) = 333
            weigh(0, 3, 333) = 334
            """));
        s.holds(NO_SWITCH_OR_VARIANT, () -> {
            everySwitch("weigh($, 1, 0)");
            for (int one = 0; one < 3; one++) {
                busy().takes("weigh(" + one + ", " + (one + 1) + ", 0)")
                    .beyond("weigh(" + one + ", $, 0)", 0, one + 1, Check.INDEX);
            }
            full().refuses("weigh(6, 2, 0)", Check.INDEX).refuses("weigh(8, 2, 0)", Check.INDEX);
        });
        s.holds("Throws `IllegalArgumentException` if variant is 0, weight is not 0 to 1000, or the VARIANT 0 would have"
            + " less than 0", () -> {
            Run run = run().calls("""
                add(1, 4, false)
                weigh(0, 1, 0)
                """);
            run.refuses("weigh(0, 0, 0)", Check.ARGUMENT).refuses("weigh(0, 0, 1000)", Check.ARGUMENT);
            run.refuses("weigh(0, 0, 500)", Check.ARGUMENT).refuses("weigh(0, 0, -1)", Check.ARGUMENT);
            run.range("weigh(0, 1, $)", 0, 1000, Check.ARGUMENT).range("weigh(0, 3, $)", 0, 1000, Check.ARGUMENT);
            run.calls("""
                weigh(0, 1, 600) = 400
                weigh(0, 2, 401) throws IllegalArgumentException
                weigh(0, 2, 400) = 0
                weigh(0, 3, 1) throws IllegalArgumentException
                weigh(0, 3, 0) = 0
                weigh(0, 1, 601) throws IllegalArgumentException
                weigh(0, 1, 600) = 0
                weigh(0, 2, 1000) throws IllegalArgumentException
                weigh(0, 1, -1) throws IllegalArgumentException
                weigh(0, 0, 0) throws IllegalArgumentException
                weight(0, 0) = 0
                weight(0, 1) = 600
                weight(0, 2) = 400
                """);
            for (Run other : new Run[] {busy(), full()}) {
                other.range("weigh(0, 1, $)", 0, 1000, Check.ARGUMENT).refuses("weigh(0, 0, 500)", Check.ARGUMENT);
            }
            busy().refuses("weigh(1, 1, 667)", Check.ARGUMENT).takes("weigh(1, 1, 666)");
        });
    }

    private void turn() {
        s.in("Promise 4: turn");
        s.plain(ONE);
        s.holds("- `isOn`: whether it is ON from now on", () -> run().calls("""
            add(1, 2, false)
            add(2, 2, false)
            turn(0, false)
            why(0, 0, 0, 0) = 0
            turn(0, true)
            turn(0, true)
            why(0, 0, 0, 0) = 8
            why(1, 0, 0, 0) = 0
            turn(0, false)
            why(0, 0, 0, 0) = 0
            """));
        s.holds("Returns whether it was.", () -> run().calls("""
            add(1, 2, false)
            turn(0, false) = false
            turn(0, true) = false
            turn(0, true) = true
            turn(0, false) = true
            turn(0, false) = false
            """));
        s.holds(NO_SWITCH, () -> {
            everySwitch("turn($, true)");
            everySwitch("turn($, false)");
        });
    }

    private void ramp() {
        s.in("Promise 5: ramp");
        s.plain("- `one`: the SWITCH");
        s.holds("Sets a RAMP, as of now.", () -> run().calls("""
            add(1, 2, false)
            goOn(100)
            ramp(0, 0, 1)
            share(0) = 0
            goOn(1)
            share(0) = 1
            ramp(0, 0, 1)
            share(0) = 0
            """));
        s.holds("- `share`: its SHARE", () -> run().calls("""
            add(1, 2, false)
            ramp(0, 0, 0)
            share(0) = 0
            ramp(0, 1, 0)
            share(0) = 1
            ramp(0, 999, 0)
            share(0) = 999
            ramp(0, 1000, 0)
            share(0) = 1000
            """));
        s.holds("- `step`: its STEP", () -> run().calls("""
            add(1, 2, false)
            ramp(0, 0, 0)
            goOn(100)
            share(0) = 0
            ramp(0, 0, 1)
            goOn(100)
            share(0) = 100
            ramp(0, 0, 999)
            goOn(1)
            share(0) = 999
            ramp(0, 0, 1000)
            goOn(1)
            share(0) = 1000
            """));
        s.holds("Returns how far it was till now.", () -> run().calls("""
            add(1, 2, false)
            ramp(0, 0, 0) = 1000
            ramp(0, 0, 9) = 0
            goOn(1)
            ramp(0, 998, 1) = 9
            goOn(2)
            ramp(0, 998, 1) = 1000
            goOn(3)
            ramp(0, 5, 0) = 1000
            ramp(0, 1000, 1000) = 5
            ramp(0, 0, 0) = 1000
            """));
        s.holds(NO_SWITCH, () -> everySwitch("ramp($, 5, 5)"));
        s.holds("Throws `IllegalArgumentException` if share or step is not 0 to 1000", () -> {
            for (Run run : new Run[] {busy(), full()}) {
                run.range("ramp(0, $, 3)", 0, 1000, Check.ARGUMENT);
                run.range("ramp(0, 3, $)", 0, 1000, Check.ARGUMENT);
                run.refuses("ramp(0, -1, 1001)", Check.ARGUMENT);
            }
        });
    }

    private void place() {
        s.in("Promise 6: place");
        s.plain("Puts a SWITCH into a LAYER.", "- `one`: the SWITCH");
        s.holds("- `layer`: the LAYER; NONE to take it out", () -> run().calls("""
            add(1, 2, false)
            place(0, 0, 0, 10)
            left(0) = 990
            place(0, 2, 0, 10)
            left(0) = 1000
            left(1) = 1000
            left(2) = 990
            place(0, -1, 0, 10)
            left(2) = 1000
            """));
        s.holds("- `from`: where its range begins (not looked at with NONE)", () -> {
            layered(300, 1000).due("why(0, " + Users.at(500, 299) + ", 0, 0)", 5)
                .due("why(0, " + Users.at(500, 300) + ", 0, 0)", 8);
            layered(0, 1000).due("why(0, " + Users.at(500, 0) + ", 0, 0)", 8);
            layered(1, 1000).due("why(0, " + Users.at(500, 0) + ", 0, 0)", 5)
                .due("why(0, " + Users.at(500, 1) + ", 0, 0)", 8);
            takesOut("place(0, -1, $, 5)");
        });
        s.holds("- `to`: where it ends (not looked at with NONE)", () -> {
            layered(0, 300).due("why(0, " + Users.at(500, 299) + ", 0, 0)", 8)
                .due("why(0, " + Users.at(500, 300) + ", 0, 0)", 5);
            layered(0, 1000).due("why(0, " + Users.at(500, 999) + ", 0, 0)", 8);
            layered(0, 999).due("why(0, " + Users.at(500, 999) + ", 0, 0)", 5)
                .due("why(0, " + Users.at(500, 998) + ", 0, 0)", 8);
            takesOut("place(0, -1, 5, $)");
        });
        s.holds("Returns the LAYER before.", () -> run().calls("""
            add(1, 2, false)
            place(0, -1, 0, 0) = -1
            place(0, 0, 0, 0) = -1
            place(0, 0, 5, 9) = 0
            place(0, 2, 0, 1000) = 0
            place(0, 1, 0, 1000) = 2
            place(0, -1, 0, 0) = 1
            place(0, -1, 0, 0) = -1
            """));
        s.holds(NO_SWITCH, () -> everySwitch("place($, -1, 0, 0)"));
        s.holds("Throws `IllegalArgumentException` if layer is not -1 to 2, or from is below 0, above to, or to above 1000",
            this::placeOutside);
        s.holds("Throws `IllegalStateException` if the range has something in common with that of another SWITCH in the"
            + " LAYER", this::placeTaken);
    }

    /** A SWITCH that is ON, in the LAYER 0 with the range. */
    private Run layered(int from, int to) {
        return run().does("add(60, 2, false)").does("turn(0, true)").does("place(0, 0, " + from + ", " + to + ")");
    }

    private void takesOut(String call) {
        for (String number : new String[] {"-1", "6", "1001", "MIN", "MAX"}) {
            layered(0, 1000).due(call.replace("$", number), 0).due("left(0)", 1000).due("place(0, 0, 0, 0)", -1);
        }
    }

    private void placeOutside() {
        for (Run run : new Run[] {busy(), run().does("add(1, 2, true)")}) {
            run.range("place(0, $, 10, 20)", -1, 2, Check.ARGUMENT);
            run.takes("place(0, 0, 10, 20)").takes("place(0, 1, 10, 20)");
            run.takes("place(0, 1, 0, 5)").refuses("place(0, 1, -1, 5)", Check.ARGUMENT);
            run.refuses("place(0, 1, MIN, 5)", Check.ARGUMENT).refuses("place(0, 1, MAX, 5)", Check.ARGUMENT);
            run.takes("place(0, 1, 5, 5)").refuses("place(0, 1, 6, 5)", Check.ARGUMENT);
            run.takes("place(0, 1, 5, 1000)").refuses("place(0, 1, 5, 1001)", Check.ARGUMENT);
            run.refuses("place(0, 1, 5, MAX)", Check.ARGUMENT).refuses("place(0, 1, 5, MIN)", Check.ARGUMENT);
            run.takes("place(0, 1, 0, 0)").refuses("place(0, 1, -1, -1)", Check.ARGUMENT);
            run.takes("place(0, 1, 1000, 1000)").refuses("place(0, 1, 1001, 1001)", Check.ARGUMENT);
            run.refuses("place(0, 1, -1, 1001)", Check.ARGUMENT).refuses("place(0, 1, MIN, MAX)", Check.ARGUMENT);
            run.takes("place(0, 2, 0, 1000)");
        }
        full().beyond("place(0, $, 10, 20)", -1, 2, Check.ARGUMENT).refuses("place(3, 1, 5, 1001)", Check.ARGUMENT);
    }

    private void placeTaken() {
        Run run = run().calls("""
            add(1, 2, false)
            add(2, 2, false)
            add(3, 2, false)
            place(0, 1, 400, 600)
            """);
        for (String range : new String[] {"0, 401", "599, 1000", "400, 401", "599, 600", "450, 550", "400, 600", "399, 601",
            "0, 1000"}) {
            run.refuses("place(1, 1, " + range + ")", Check.STATE);
            run.takes("place(1, 0, " + range + ")").takes("place(1, 2, " + range + ")").takes("place(0, 1, " + range + ")");
        }
        for (String range : new String[] {"0, 400", "600, 1000", "400, 400", "500, 500", "600, 600", "0, 0", "1000, 1000"}) {
            run.takes("place(1, 1, " + range + ")").takes("place(2, 1, " + range + ")");
        }
        run.calls("""
            place(2, 1, 800, 1000) = -1
            place(2, 1, 599, 1000) throws IllegalStateException
            place(2, 1, 900, 1000) = 1
            place(1, 1, 600, 901) throws IllegalStateException
            place(1, 1, 600, 900) = -1
            place(1, 1, 599, 900) throws IllegalStateException
            left(1) = 400
            place(0, 1, 500, 500) = 1
            place(1, 1, 0, 900) = 1
            place(0, -1, 0, 0) = 1
            place(0, 1, 899, 900) throws IllegalStateException
            place(0, 1, 900, 901) throws IllegalStateException
            place(0, 1, 900, 900) = -1
            """);
        full().refuses("place(3, 0, 999, 1000)", Check.STATE).refuses("place(1, 1, 0, 501)", Check.STATE)
            .takes("place(3, 0, 500, 500)");
    }

    private void need() {
        s.in("Promise 7: need");
        s.plain("- `one`: the SWITCH");
        s.holds("Lets a SWITCH need another one, in the place of what it needed.", () -> run().calls("""
            add(1, 2, false)
            add(2, 2, false)
            add(3, 2, false)
            turn(2, true)
            need(2, 0, 1) = -1
            why(2, 0, 0, 0) = 1
            need(2, 1, 0) = 0
            why(2, 0, 0, 0) = 8
            need(2, 1, 1) = 1
            why(2, 0, 0, 0) = 1
            """));
        s.holds("- `other`: the other one; NONE to need nothing", () -> run().calls("""
            add(1, 2, false)
            add(2, 2, false)
            turn(1, true)
            need(1, 0, 1) = -1
            why(1, 0, 0, 0) = 1
            need(1, -1, 0) = 0
            why(1, 0, 0, 0) = 8
            need(0, -1, 0) = -1
            need(1, -2, 0) throws IndexOutOfBoundsException
            """));
        s.holds("- `variant`: the VARIANT of it (not looked at with NONE)", () -> {
            Run run = run().does("add(1, 4, false)").does("add(2, 2, false)").does("turn(1, true)");
            for (String variant : new String[] {"-1", "-2", "4", "MIN", "MAX", "0", "3"}) {
                run.due("need(1, 0, 3)", -1).due("need(1, -1, " + variant + ")", 0).due("why(1, 0, 0, 0)", 8);
            }
            run.calls("""
                need(1, 0, 0)
                why(1, 0, 0, 0) = 8
                need(1, 0, 3)
                why(1, 0, 0, 0) = 1
                """);
        });
        s.holds("Returns the one that it needed before; NONE without one.", () -> {
            run().calls("""
                add(1, 2, false)
                add(2, 2, false)
                add(3, 2, false)
                need(2, 0, 0) = -1
                need(2, 1, 1) = 0
                need(2, 1, 0) = 1
                need(2, -1, 0) = 1
                need(2, -1, 0) = -1
                need(1, 0, 1) = -1
                """);
            full().due("need(7, 6, 1)", -1).due("need(7, 0, 0)", 6).due("need(7, -1, 0)", 0).due("need(0, -1, 0)", -1);
        });
        s.holds("Throws `IndexOutOfBoundsException` if there is no such SWITCH (but NONE for other), or VARIANT of the other"
            + " one", this::needOfNone);
        s.holds("Throws `IllegalArgumentException` if other is not smaller than one", () -> {
            busy().takes("need(3, 2, 0)").refuses("need(3, 3, 0)", Check.ARGUMENT).refuses("need(2, 3, 0)", Check.ARGUMENT)
                .refuses("need(0, 0, 1)", Check.ARGUMENT).refuses("need(0, 3, 1)", Check.ARGUMENT)
                .takes("need(1, 0, 1)").refuses("need(1, 1, 2)", Check.ARGUMENT).refuses("need(1, 2, 3)", Check.ARGUMENT);
            full().takes("need(7, 6, 1)").takes("need(7, 0, 1)").refuses("need(7, 7, 0)", Check.ARGUMENT)
                .refuses("need(6, 7, 0)", Check.ARGUMENT);
        });
    }

    private void needOfNone() {
        everySwitch("need($, -1, 0)");
        run().refuses("need(0, -1, 0)", Check.INDEX).refuses("need(-1, -1, 0)", Check.INDEX);
        busy().takes("need(3, -1, 0)").takes("need(3, 0, 0)").takes("need(3, 2, 3)")
            .refuses("need(3, -2, 0)", Check.INDEX).refuses("need(3, 4, 0)", Check.INDEX)
            .refuses("need(3, 8, 0)", Check.INDEX).refuses("need(3, MIN, 0)", Check.INDEX)
            .refuses("need(3, MAX, 0)", Check.INDEX)
            .range("need(3, 0, $)", 0, 1, Check.INDEX)
            .range("need(3, 1, $)", 0, 2, Check.INDEX)
            .range("need(3, 2, $)", 0, 3, Check.INDEX);
        full().takes("need(7, 6, 0)").refuses("need(7, 8, 0)", Check.INDEX).refuses("need(8, 7, 0)", Check.INDEX)
            .range("need(7, 6, $)", 0, 1, Check.INDEX);
    }

    private void rule() {
        s.in("Promise 8: rule");
        s.plain("- `one`: the SWITCH", "- `n`: n");
        s.holds("Adds a RULE behind the others.", () -> {
            Run run = run().does("add(1, 2, false)");
            for (int rule = 0; rule < 5; rule++) {
                run.due("holds(0, 0, 3, " + rule + ")", -1);
                run.does("rule(0, 1, 2, " + rule + ", -1)").due("holds(0, 0, 3, " + rule + ")", rule);
            }
            run.calls("""
                unrule(0, 4)
                rule(0, 1, 3, 0, -1)
                holds(0, 0, 0, 1) = 1
                holds(0, 0, 0, 9) = 4
                """);
        });
        s.holds("- `mark`: 0 or 1", () -> run().calls("""
            add(1, 2, false)
            rule(0, 0, 2, 3, 1)
            holds(0, 5, 3, 4) = 0
            holds(0, 5, 4, 3) = -1
            rule(0, 1, 2, 3, 1)
            holds(0, 5, 4, 3) = 1
            holds(0, 5, 4, 4) = -1
            """));
        s.holds("- `how`: 1 less than n, 2 equal to n, 3 greater than n", () -> run().calls("""
            add(1, 2, false)
            rule(0, 0, 1, 5, 1)
            holds(0, 5, 4, 5) = 0
            holds(0, 5, 5, 4) = -1
            holds(0, 5, 6, 4) = -1
            rule(0, 0, 2, 5, 1)
            holds(0, 5, 5, 4) = 1
            holds(0, 5, 6, 5) = -1
            rule(0, 0, 3, 5, 1)
            holds(0, 5, 6, 5) = 2
            unrule(0, 0)
            holds(0, 5, 4, 5) = -1
            """));
        s.holds("- `variant`: the VARIANT that comes of it; NONE for SPLIT", () -> run().calls("""
            add(1, 4, false)
            turn(0, true)
            weigh(0, 1, 1000)
            rule(0, 0, 2, 0, 0)
            rule(0, 0, 2, 3, 3)
            rule(0, 0, 2, 9, -1)
            gets(0, 5, 0, 0) = 0
            why(0, 5, 0, 0) = 3
            gets(0, 5, 3, 0) = 3
            why(0, 5, 3, 0) = 3
            gets(0, 5, 9, 0) = 1
            why(0, 5, 9, 0) = 8
            """));
        s.holds("Returns how many RULES the SWITCH has then.", () -> run().calls("""
            add(1, 2, false)
            add(2, 2, false)
            rule(0, 0, 1, 0, 0) = 1
            rule(0, 0, 1, 0, 0) = 2
            rule(0, 0, 1, 0, 0) = 3
            rule(0, 0, 1, 0, 0) = 4
            rule(0, 0, 1, 0, 0) = 5
            rule(1, 0, 1, 0, 0) = 1
            unrule(0, 0)
            rule(0, 0, 1, 0, 0) = 5
            """));
        s.holds(NO_SWITCH_OR_VARIANT + " (but NONE)", () -> {
            noSwitch("rule($, 0, 1, 0, -1)");
            noSwitch("rule($, 0, 1, 0, 0)");
            busy().takes("rule(0, 0, 1, 0, -1)").takes("rule(3, 0, 1, 0, -1)")
                .range("rule(0, 0, 1, 0, $)", -1, 1, Check.INDEX)
                .range("rule(1, 0, 1, 0, $)", -1, 2, Check.INDEX)
                .range("rule(2, 0, 1, 0, $)", -1, 3, Check.INDEX);
            full().range("rule(6, 0, 1, 0, $)", -1, 1, Check.INDEX).beyond("rule(7, 0, 1, 0, $)", -1, 2, Check.INDEX);
        });
        s.holds("Throws `IllegalArgumentException` if mark is not 0 or 1, how is not 1 to 3, or n is not 0 to 9", () -> {
            busy().range("rule(1, $, 2, 5, 0)", 0, 1, Check.ARGUMENT)
                .range("rule(1, 0, $, 5, -1)", 1, 3, Check.ARGUMENT)
                .range("rule(1, 1, 2, $, 2)", 0, 9, Check.ARGUMENT)
                .refuses("rule(1, 2, 0, 10, 2)", Check.ARGUMENT);
            full().beyond("rule(7, $, 2, 5, 0)", 0, 1, Check.ARGUMENT)
                .beyond("rule(7, 0, $, 5, -1)", 1, 3, Check.ARGUMENT)
                .beyond("rule(7, 1, 2, $, 1)", 0, 9, Check.ARGUMENT);
        });
        s.holds("Throws `IllegalStateException` if it has 5", () -> {
            full().refuses("rule(0, 0, 1, 0, -1)", Check.STATE).refuses("rule(7, 1, 3, 9, 0)", Check.STATE)
                .takes("rule(6, 1, 3, 9, 0)");
            run().calls("""
                add(1, 2, false)
                rule(0, 0, 1, 0, 0)
                rule(0, 0, 1, 1, 0)
                rule(0, 0, 1, 2, 0)
                rule(0, 0, 1, 3, 0) = 4
                rule(0, 0, 1, 4, 0) = 5
                rule(0, 0, 1, 5, 0) throws IllegalStateException
                unrule(0, 0) = 4
                rule(0, 0, 1, 5, 0) = 5
                rule(0, 0, 1, 6, 0) throws IllegalStateException
                holds(0, 0, 4, 0) = 4
                holds(0, 0, 5, 0) = -1
                """);
        });
    }

    private void unrule() {
        s.in("Promise 9: unrule");
        s.plain("- `one`: the SWITCH");
        s.holds("Takes a RULE away; those behind it move up.", () -> {
            for (int gone = 0; gone < 5; gone++) {
                Run run = fiveRules().does("unrule(0, " + gone + ")");
                for (int rule = 0; rule < 5; rule++) {
                    int now = rule == gone ? -1 : rule > gone ? rule - 1 : rule;
                    run.due("holds(0, 0, " + rule + ", 0)", now);
                }
            }
            run().calls("""
                add(1, 2, false)
                turn(0, true)
                rule(0, 0, 2, 5, 1)
                why(0, 0, 5, 0) = 3
                why(0, 0, 4, 0) = 7
                unrule(0, 0)
                why(0, 0, 5, 0) = 8
                why(0, 0, 4, 0) = 8
                """);
        });
        s.holds("- `rule`: the RULE, from 0 on", () -> {
            fiveRules().does("unrule(0, 0)").due("holds(0, 0, 0, 0)", -1).due("holds(0, 0, 1, 0)", 0);
            fiveRules().does("unrule(0, 4)").due("holds(0, 0, 4, 0)", -1).due("holds(0, 0, 3, 0)", 3);
        });
        s.holds("Returns how many are left.", () -> {
            Run run = fiveRules();
            for (int left = 4; left >= 0; left--) {
                run.due("unrule(0, 0)", left);
            }
        });
        s.holds(NO_SWITCH + ", or RULE", () -> {
            noSwitch("unrule($, 0)");
            busy().takes("unrule(1, 0)").takes("unrule(3, 0)").refuses("unrule(0, 0)", Check.INDEX).range("unrule(1, $)", 0, 1, Check.INDEX);
            full().range("unrule(0, $)", 0, 4, Check.INDEX).range("unrule(7, $)", 0, 4, Check.INDEX)
                .refuses("unrule(6, 0)", Check.INDEX);
            Run run = fiveRules();
            for (int left = 5; left > 0; left--) {
                run.range("unrule(0, $)", 0, left - 1, Check.INDEX).due("unrule(0, " + (left - 1) + ")", left - 1);
            }
            run.refuses("unrule(0, 0)", Check.INDEX);
        });
    }

    /** A SWITCH whose RULE r asks for the MARK r. */
    private Run fiveRules() {
        Run run = run().does("add(1, 2, false)");
        for (int rule = 0; rule < 5; rule++) {
            run.does("rule(0, 0, 2, " + rule + ", -1)");
        }
        return run;
    }

    private void hold() {
        s.in("Promise 10: hold");
        s.holds("- `held`: the HOLDOUT from now on", () -> {
            int first = Users.at(999, 0);
            int last = Users.at(999, 999);
            Run run = run().does("add(60, 2, false)").does("turn(0, true)");
            run.due("why(0, " + first + ", 0, 0)", 8);
            run.does("hold(1)").due("why(0, " + first + ", 0, 0)", 4).due("why(0, " + last + ", 0, 0)", 8);
            run.does("hold(999)").due("why(0, " + last + ", 0, 0)", 8);
            run.does("hold(1000)").due("why(0, " + last + ", 0, 0)", 4);
            run.does("hold(0)").due("why(0, " + first + ", 0, 0)", 8).due("why(0, " + last + ", 0, 0)", 8);
        });
        s.holds("Returns the one before.", () -> run().calls("""
            hold(1000) = 0
            hold(1000) = 1000
            hold(1) = 1000
            hold(0) = 1
            hold(0) = 0
            """));
        s.holds("Throws `IllegalArgumentException` if held is not 0 to 1000", () -> {
            for (Run run : new Run[] {run(), busy(), full()}) {
                run.range("hold($)", 0, 1000, Check.ARGUMENT);
            }
        });
    }

    private void goOn() {
        s.in("Promise 11: goOn");
        s.holds("- `ticks`: by how much the CLOCK goes on", () -> run().calls("""
            add(1, 2, false)
            ramp(0, 0, 1)
            goOn(1)
            share(0) = 1
            goOn(100)
            share(0) = 101
            """));
        s.holds("Returns the CLOCK then.", () -> run().calls("""
            goOn(1) = 1
            goOn(1) = 2
            goOn(100) = 102
            goOn(99) = 201
            """));
        s.holds("Throws `IllegalArgumentException` if ticks is not 1 to 100", () -> {
            for (Run run : new Run[] {run(), busy(), full()}) {
                run.range("goOn($)", 1, 100, Check.ARGUMENT).refuses("goOn(-1)", Check.ARGUMENT);
            }
        });
    }

    private void switches() {
        s.in("Promise 12: switches");
        s.holds("Returns how many SWITCHES there are.", () -> {
            Run run = run();
            for (int many = 0; many < 8; many++) {
                run.due("switches()", many).does("add(9, 2, false)");
            }
            run.due("switches()", 8).refuses("add(9, 2, false)", Check.STATE).due("switches()", 8);
        });
    }

    private void weight() {
        s.in("Promise 13: weight");
        s.plain(ONE, VARIANT);
        s.holds("Returns its WEIGHT.", () -> run().calls("""
            add(1, 2, false)
            weight(0, 0) = 1000
            weight(0, 1) = 0
            add(1, 4, false)
            weigh(1, 3, 1000)
            weight(1, 0) = 0
            weight(1, 2) = 0
            weight(1, 3) = 1000
            weigh(1, 3, 1)
            weight(1, 0) = 999
            weight(1, 3) = 1
            weight(0, 0) = 1000
            """));
        s.holds(NO_SWITCH_OR_VARIANT, () -> {
            everySwitch("weight($, 1)");
            everyVariant("weight(#, $)");
        });
    }

    private void share() {
        s.in("Promise 14: share");
        s.plain(ONE);
        s.holds("Returns how far its RAMP is.", () -> run().calls("""
            add(1, 2, false)
            share(0) = 1000
            goOn(1)
            share(0) = 1000
            ramp(0, 0, 500)
            share(0) = 0
            goOn(1)
            share(0) = 500
            goOn(1)
            share(0) = 1000
            goOn(1)
            share(0) = 1000
            ramp(0, 1, 333)
            goOn(2)
            share(0) = 667
            goOn(1)
            share(0) = 1000
            """));
        s.holds(NO_SWITCH, () -> everySwitch("share($)"));
    }

    private void left() {
        s.in("Promise 15: left");
        s.plain("- `layer`: a LAYER");
        s.holds("Returns how many BUCKETS of it are in no range.", () -> {
            Run run = run();
            for (int one = 0; one < 8; one++) {
                run.does("add(1, 2, false)").due("place(" + one + ", 2, " + 125 * one + ", " + 125 * (one + 1) + ")", -1)
                    .due("left(2)", 1000 - 125 * (one + 1));
            }
            run.calls("""
                left(2) = 0
                left(0) = 1000
                left(1) = 1000
                place(7, 0, 0, 1) = 2
                left(2) = 125
                left(0) = 999
                place(7, 0, 0, 999) = 0
                left(0) = 1
                place(7, 0, 0, 1000) = 0
                left(0) = 0
                place(7, 0, 500, 500) = 0
                left(0) = 1000
                place(7, -1, 0, 0) = 0
                left(0) = 1000
                """);
        });
        s.holds("Throws `IndexOutOfBoundsException` if there is no such LAYER", () -> {
            for (Run run : new Run[] {run(), busy(), full()}) {
                run.range("left($)", 0, 2, Check.INDEX);
            }
        });
    }
}
