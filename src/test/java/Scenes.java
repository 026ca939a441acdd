/** Objects in which calls are refused: one with something of everything, and one in which everything is full. */
final class Scenes {
    static final int BUSY = 4;
    static final int FULL = 8;

    private Scenes() {
    }

    static Run empty(Check check) {
        return new Run(check);
    }

    /** Four SWITCHES, of 2, 3, 4 and 2 VARIANTS. */
    static Run busy(Check check) {
        Run run = new Run(check).calls("""
            add(17, 2, false)
            add(250, 3, true)
            add(498, 4, false)
            add(91, 2, true)
            weigh(0, 1, 500)
            weigh(1, 1, 333)
            weigh(1, 2, 334)
            weigh(2, 3, 900)
            weigh(3, 1, 999)
            turn(0, true)
            turn(1, true)
            turn(2, true)
            rule(1, 0, 3, 3, -1)
            rule(1, 1, 2, 4, 2)
            rule(3, 1, 1, 8, -1)
            need(2, 1, 0)
            need(3, 1, 2)
            ramp(0, 300, 5)
            place(0, 0, 0, 600)
            place(2, 0, 600, 900)
            hold(100)
            goOn(7)
            """);
        for (int user = 0; user < 10; user++) {
            run.does("ask(0, " + user + ", " + user + ", 0)");
            run.does("ask(1, " + user + ", " + (9 - user) + ", 4)");
            run.does("act(" + user + ", " + user * 7 + ")");
        }
        return run;
    }

    /** Eight SWITCHES, the first and the last with 5 RULES, all LAYERS without a BUCKET left, and 100 ARMS. */
    static Run full(Check check) {
        Run run = new Run(check);
        for (int one = 0; one < FULL; one++) {
            run.does("add(" + 71 * one + ", " + (2 + one % 3) + ", " + (one % 2 == 0) + ")");
            run.does("turn(" + one + ", true)");
            run.does("weigh(" + one + ", 1, 500)");
        }
        for (int rule = 0; rule < 5; rule++) {
            run.does("rule(0, 0, 2, " + rule + ", 1)");
            run.does("rule(7, 1, 2, " + rule + ", -1)");
        }
        run.calls("""
            ramp(0, 600, 0)
            ramp(6, 0, 7)
            goOn(3)
            place(0, 0, 0, 1000)
            place(1, 1, 0, 500)
            place(2, 1, 500, 1000)
            place(6, 2, 0, 1000)
            need(5, 4, 1)
            """);
        for (int user = 0; user < 50; user++) {
            run.does("ask(3, " + user + ", 0, 0)");
            run.does("ask(4, " + user + ", 0, 0)");
        }
        return run.due("arms()", 100);
    }
}
