/** Promises 16 to 23: who gets what, and why, and the arms that come of it. */
public final class WhoGetsWhatTest {
    private static final Check check = new Check();

    public static void main(String[] args) {
        bucket();
        split();
        splitOverWeightsOfNothing();
        reasonsInOrder();
        ramp();
        layer();
        held();
        needs();
        needsInAChain();
        needLooksAtTheSameMarks();
        rules();
        holds();
        sticky();
        armIsTheFirst();
        armOnlyBySplit();
        armsAtMost();
        act();
        refuses();
        check.end();
    }

    private static void bucket() {
        DaybreakFlags x = new DaybreakFlags();
        check.due("bucket(0, 0)", x.bucket(0, 0), 289);
        check.due("bucket(0, 1)", x.bucket(0, 1), 307);
        check.due("bucket(1, 0)", x.bucket(1, 0), 46);
        check.due("bucket(999, 9999)", x.bucket(999, 9999), 579);
        int salt = 347;
        int user = 5821;
        long h = (salt * 7919L + user * 31L + 17) % 10007;
        check.due("bucket(347, 5821)", x.bucket(salt, user), (h * h + salt + 3L * user) % 10007 % 1000);
        check.dueThrow("salt -1", Check.ARGUMENT, () -> x.bucket(-1, 0));
        check.dueThrow("salt 1000", Check.ARGUMENT, () -> x.bucket(1000, 0));
        check.dueThrow("user -1", Check.ARGUMENT, () -> x.bucket(0, -1));
        check.dueThrow("user 10000", Check.ARGUMENT, () -> x.bucket(0, 10000));
        check.dueThrow("the greatest", Check.ARGUMENT, () -> x.bucket(Integer.MAX_VALUE, Integer.MAX_VALUE));
    }

    private static void split() {
        DaybreakFlags x = new DaybreakFlags();
        x.add(77, 3, false);
        x.weigh(0, 1, 300);
        x.weigh(0, 2, 200);
        x.turn(0, true);
        for (int user = 0; user < 240; user++) {
            int bucket = Users.bucket(77, user);
            int want = bucket < 500 ? 0 : bucket < 800 ? 1 : 2;
            check.due("split of " + user, x.gets(0, user, 1, 2), want);
            check.due("why of " + user, x.why(0, user, 1, 2), 8);
        }
        int[][] edges = {{499, 0}, {500, 1}, {799, 1}, {800, 2}, {999, 2}, {0, 0}};
        for (int[] each : edges) {
            int user = Users.at(77, each[0]);
            check.due("split at " + each[0], x.gets(0, user, 0, 0), each[1]);
        }
    }

    private static void splitOverWeightsOfNothing() {
        DaybreakFlags x = new DaybreakFlags();
        x.add(31, 4, false);
        x.weigh(0, 2, 1000);
        x.turn(0, true);
        check.due("all in 2, at 0", x.gets(0, Users.at(31, 0), 0, 0), 2);
        check.due("all in 2, at 999", x.gets(0, Users.at(31, 999), 0, 0), 2);
        x.weigh(0, 2, 400);
        x.weigh(0, 3, 600);
        check.due("at 399", x.gets(0, Users.at(31, 399), 0, 0), 2);
        check.due("at 400", x.gets(0, Users.at(31, 400), 0, 0), 3);
    }

    /** All of the reasons apply to one user at first; then they are taken away, one by one. */
    private static void reasonsInOrder() {
        DaybreakFlags x = new DaybreakFlags();
        x.add(5, 2, false);
        x.add(40, 3, true);
        x.weigh(1, 1, 1000);
        x.turn(1, true);
        int user = 123;
        check.due("the arm to come", x.ask(1, user, 4, 4), 1);
        check.due("it is kept", x.arm(1, user), 1);
        x.turn(1, false);
        x.need(1, 0, 1);
        x.rule(1, 0, 2, 4, 2);
        x.hold(1000);
        x.place(1, 0, 0, 0);
        x.ramp(1, 0, 0);
        look(x, user, 4, 0, 0);
        x.turn(1, true);
        look(x, user, 4, 1, 0);
        x.need(1, -1, 0);
        look(x, user, 4, 2, 1);
        int other = 124;
        look(x, other, 4, 3, 2);
        look(x, other, 5, 4, 0);
        x.hold(0);
        look(x, other, 5, 5, 0);
        x.place(1, 0, 0, 1000);
        look(x, other, 5, 6, 0);
        x.ramp(1, 1000, 0);
        look(x, other, 5, 7, 0);
        x.rule(1, 0, 2, 5, -1);
        look(x, other, 5, 8, 1);
        look(x, other, 4, 3, 2);
        x.unrule(1, 0);
        x.unrule(1, 0);
        look(x, other, 4, 8, 1);
    }

    private static void look(DaybreakFlags x, int user, int first, int reason, int variant) {
        check.due("why, due " + reason, x.why(1, user, first, 0), reason);
        check.due("gets with reason " + reason, x.gets(1, user, first, 0), variant);
    }

    private static void ramp() {
        DaybreakFlags x = new DaybreakFlags();
        x.add(60, 2, false);
        x.weigh(0, 1, 1000);
        x.turn(0, true);
        x.ramp(0, 100, 10);
        int at99 = Users.at(61, 99);
        int at100 = Users.at(61, 100);
        int at109 = Users.at(61, 109);
        int at110 = Users.at(61, 110);
        check.due("below the share", x.why(0, at99, 0, 0), 8);
        check.due("at the share", x.why(0, at100, 0, 0), 6);
        check.due("gets without the ramp", x.gets(0, at100, 0, 0), 0);
        x.goOn(1);
        check.due("in after a tick", x.gets(0, at100, 0, 0), 1);
        check.due("in after a tick", x.why(0, at109, 0, 0), 8);
        check.due("not yet", x.why(0, at110, 0, 0), 6);
        x.ramp(0, 999, 0);
        check.due("the last one", x.why(0, Users.at(61, 999), 0, 0), 6);
        x.ramp(0, 0, 0);
        check.due("the first one", x.why(0, Users.at(61, 0), 0, 0), 6);
    }

    private static void layer() {
        for (int layer = 0; layer < 3; layer++) {
            DaybreakFlags x = new DaybreakFlags();
            x.add(60, 2, false);
            x.weigh(0, 1, 1000);
            x.turn(0, true);
            x.place(0, layer, 200, 700);
            int salt = 500 + layer;
            check.due("ahead of the range", x.why(0, Users.at(salt, 199), 0, 0), 5);
            check.due("gets ahead of it", x.gets(0, Users.at(salt, 199), 0, 0), 0);
            check.due("from", x.why(0, Users.at(salt, 200), 0, 0), 8);
            check.due("gets in it", x.gets(0, Users.at(salt, 200), 0, 0), 1);
            check.due("ahead of to", x.why(0, Users.at(salt, 699), 0, 0), 8);
            check.due("to", x.why(0, Users.at(salt, 700), 0, 0), 5);
            x.place(0, -1, 0, 0);
            check.due("in no layer", x.why(0, Users.at(salt, 700), 0, 0), 8);
        }
    }

    private static void held() {
        DaybreakFlags x = new DaybreakFlags();
        x.add(60, 2, false);
        x.weigh(0, 1, 1000);
        x.turn(0, true);
        x.hold(50);
        int at49 = Users.at(999, 49);
        check.due("held", x.why(0, at49, 0, 0), 4);
        check.due("gets held", x.gets(0, at49, 0, 0), 0);
        check.due("not held", x.why(0, Users.at(999, 50), 0, 0), 8);
        x.hold(49);
        check.due("no more held", x.gets(0, at49, 0, 0), 1);
        x.hold(0);
        check.due("nobody held", x.why(0, Users.at(999, 0), 0, 0), 8);
    }

    private static void needs() {
        DaybreakFlags x = new DaybreakFlags();
        x.add(60, 2, false);
        x.add(90, 2, false);
        x.weigh(0, 1, 500);
        x.weigh(1, 1, 1000);
        x.turn(1, true);
        x.need(1, 0, 1);
        check.due("the needed one is off", x.why(1, 3, 0, 0), 1);
        x.need(1, 0, 0);
        check.due("off tells 0", x.why(1, 3, 0, 0), 8);
        x.need(1, 0, 1);
        x.turn(0, true);
        int low = Users.in(60, 0, 500);
        int high = Users.in(60, 500, 1000);
        check.due("another", x.why(1, low, 0, 0), 1);
        check.due("gets with another", x.gets(1, low, 0, 0), 0);
        check.due("that", x.why(1, high, 0, 0), 8);
        check.due("gets with that", x.gets(1, high, 0, 0), 1);
        check.due("asking leaves the needed one alone", x.ask(1, high, 0, 0), 1);
        check.due("no arm of it", x.arm(0, high), -1);
        check.due("one arm", x.arms(), 1);
    }

    private static void needsInAChain() {
        DaybreakFlags x = new DaybreakFlags();
        for (int i = 0; i < 8; i++) {
            x.add(20 * i, 2, false);
            x.weigh(i, 1, 1000);
            x.turn(i, true);
            if (i > 0) {
                x.need(i, i - 1, 1);
            }
        }
        check.due("through all", x.gets(7, 1, 0, 0), 1);
        x.turn(0, false);
        for (int i = 1; i < 8; i++) {
            check.due("not through", x.gets(i, 1, 0, 0), 0);
            check.due("why not", x.why(i, 1, 0, 0), 1);
        }
        x.need(4, 3, 0);
        check.due("the other way round", x.gets(7, 1, 0, 0), 1);
    }

    private static void needLooksAtTheSameMarks() {
        DaybreakFlags x = new DaybreakFlags();
        x.add(60, 3, false);
        x.add(90, 2, false);
        x.turn(0, true);
        x.turn(1, true);
        x.need(1, 0, 2);
        x.rule(0, 0, 2, 3, 2);
        x.rule(0, 1, 2, 8, 2);
        check.due("mark 0", x.why(1, 5, 3, 0), 8);
        check.due("mark 1", x.why(1, 5, 0, 8), 8);
        check.due("neither", x.why(1, 5, 8, 3), 1);
    }

    private static void rules() {
        DaybreakFlags x = new DaybreakFlags();
        x.add(60, 4, false);
        x.turn(0, true);
        x.rule(0, 0, 1, 3, 1);
        x.rule(0, 0, 3, 6, 2);
        x.rule(0, 1, 2, 5, -1);
        check.due("less", x.gets(0, 1, 2, 0), 1);
        check.due("why less", x.why(0, 1, 2, 0), 3);
        check.due("not less", x.why(0, 1, 3, 0), 7);
        check.due("greater", x.gets(0, 1, 7, 0), 2);
        check.due("not greater", x.why(0, 1, 6, 0), 7);
        check.due("none holds", x.gets(0, 1, 6, 0), 0);
        check.due("split", x.why(0, 1, 6, 5), 8);
        check.due("the first that holds", x.gets(0, 1, 7, 5), 2);
        x.hold(1000);
        check.due("a rule is ahead of the holdout", x.gets(0, 1, 7, 5), 2);
        check.due("a split is not", x.why(0, 1, 6, 5), 4);
    }

    private static void holds() {
        DaybreakFlags x = new DaybreakFlags();
        x.add(60, 2, false);
        check.due("without rules", x.holds(0, 1, 0, 0), -1);
        x.rule(0, 1, 1, 0, 1);
        x.rule(0, 1, 3, 9, 1);
        x.rule(0, 0, 2, 9, -1);
        check.due("nothing is below 0 or above 9", x.holds(0, 1, 0, 9), -1);
        check.due("equal", x.holds(0, 1, 9, 0), 2);
        x.rule(0, 1, 3, 0, 0);
        x.rule(0, 0, 1, 9, 0);
        check.due("greater than 0", x.holds(0, 1, 0, 1), 3);
        check.due("less than 9", x.holds(0, 1, 8, 0), 4);
        check.due("off is no matter", x.why(0, 1, 8, 0), 0);
        check.due("the first of two", x.holds(0, 1, 9, 9), 2);
    }

    private static void sticky() {
        for (int run = 0; run < 2; run++) {
            boolean isSticky = run == 0;
            DaybreakFlags x = new DaybreakFlags();
            x.add(60, 3, isSticky);
            x.weigh(0, 2, 1000);
            x.turn(0, true);
            check.due("asks", x.ask(0, 9, 0, 0), 2);
            x.weigh(0, 2, 0);
            check.due("gets then", x.gets(0, 9, 0, 0), isSticky ? 2 : 0);
            check.due("why then", x.why(0, 9, 0, 0), isSticky ? 2 : 8);
            check.due("another user", x.why(0, 10, 0, 0), 8);
            x.rule(0, 0, 2, 0, 1);
            check.due("with a rule", x.gets(0, 9, 0, 0), isSticky ? 2 : 1);
            check.due("the arm", x.arm(0, 9), 2);
        }
    }

    private static void armIsTheFirst() {
        DaybreakFlags x = new DaybreakFlags();
        x.add(60, 3, false);
        x.weigh(0, 1, 1000);
        x.turn(0, true);
        x.ask(0, 9, 0, 0);
        x.weigh(0, 1, 0);
        check.due("shown another", x.ask(0, 9, 0, 0), 0);
        check.due("the first stays", x.arm(0, 9), 1);
        check.due("one arm", x.arms(), 1);
        check.due("counted once", x.told(0, 1, 0), 1);
        check.due("not with the other", x.told(0, 0, 0), 0);
        check.due("gets is no question", x.gets(0, 10, 0, 0), 0);
        check.due("why neither", x.why(0, 10, 0, 0), 8);
        check.due("no arm", x.arm(0, 10), -1);
    }

    private static void armOnlyBySplit() {
        DaybreakFlags x = new DaybreakFlags();
        x.add(60, 3, false);
        x.ask(0, 9, 0, 0);
        check.due("not when off", x.arm(0, 9), -1);
        x.turn(0, true);
        x.rule(0, 0, 2, 0, 2);
        check.due("ruled", x.ask(0, 9, 0, 0), 2);
        check.due("not by a rule", x.arm(0, 9), -1);
        x.ask(0, 9, 1, 0);
        check.due("not without a rule that holds", x.arm(0, 9), -1);
        x.unrule(0, 0);
        x.hold(1000);
        x.ask(0, 9, 0, 0);
        check.due("not when held", x.arms(), 0);
        x.hold(0);
        check.due("split", x.ask(0, 9, 0, 0), 0);
        check.due("by a split", x.arm(0, 9), 0);
        check.due("one arm", x.arms(), 1);
    }

    private static void armsAtMost() {
        DaybreakFlags x = new DaybreakFlags();
        x.add(60, 2, true);
        x.add(61, 2, true);
        x.turn(0, true);
        x.turn(1, true);
        for (int user = 0; user < 60; user++) {
            x.ask(0, user, 0, 0);
        }
        for (int user = 0; user < 40; user++) {
            check.due("arms so far", x.arms(), 60 + user);
            x.ask(1, user, 0, 0);
        }
        check.due("arms", x.arms(), 100);
        check.due("the last one", x.arm(1, 39), 0);
        check.due("one more is shown", x.ask(1, 40, 0, 0), 0);
        check.due("but keeps no arm", x.arm(1, 40), -1);
        check.due("and none of the other", x.ask(0, 60, 0, 0), 0);
        check.due("and none of the other", x.arm(0, 60), -1);
        check.due("arms", x.arms(), 100);
        check.due("those kept stick", x.why(1, 39, 0, 0), 2);
        check.due("the others split", x.why(1, 40, 0, 0), 8);
        check.due("count", x.told(1, 0, 0), 40);
    }

    private static void act() {
        DaybreakFlags x = new DaybreakFlags();
        x.add(60, 2, false);
        x.add(70, 2, false);
        x.turn(0, true);
        x.turn(1, true);
        check.due("without arms", x.act(5, 100), 0);
        x.ask(0, 5, 0, 0);
        check.due("with one", x.act(5, 10), 1);
        x.ask(1, 5, 0, 0);
        check.due("with two", x.act(5, 0), 2);
        check.due("the other user", x.act(6, 50), 0);
        check.due("with two again", x.act(5, 100), 2);
        check.due("sum of the first", x.told(0, 0, 2), 110);
        check.due("sum of the second", x.told(1, 0, 2), 100);
        x.turn(0, false);
        check.due("off is no matter", x.act(5, 1), 2);
        check.due("sum of the one that is off", x.told(0, 0, 2), 111);
        check.dueThrow("user -1", Check.ARGUMENT, () -> x.act(-1, 5));
        check.dueThrow("user 10000", Check.ARGUMENT, () -> x.act(10000, 5));
        check.dueThrow("worth -1", Check.ARGUMENT, () -> x.act(5, -1));
        check.dueThrow("worth 101", Check.ARGUMENT, () -> x.act(5, 101));
        check.due("sum after refused ones", x.told(0, 0, 2), 111);
        check.due("the last user", x.act(9999, 5), 0);
        check.due("the first user", x.act(0, 5), 0);
    }

    private static void refuses() {
        DaybreakFlags x = new DaybreakFlags();
        x.add(60, 2, false);
        x.turn(0, true);
        int[][] bad = {{-1, 0, 0}, {10000, 0, 0}, {0, -1, 0}, {0, 10, 0}, {0, 0, -1}, {0, 0, 10},
            {Integer.MIN_VALUE, 0, 0}, {0, Integer.MAX_VALUE, 0}};
        for (int[] b : bad) {
            check.dueThrow("gets", Check.ARGUMENT, () -> x.gets(0, b[0], b[1], b[2]));
            check.dueThrow("why", Check.ARGUMENT, () -> x.why(0, b[0], b[1], b[2]));
            check.dueThrow("holds", Check.ARGUMENT, () -> x.holds(0, b[0], b[1], b[2]));
            check.dueThrow("ask", Check.ARGUMENT, () -> x.ask(0, b[0], b[1], b[2]));
            for (int none : new int[] {-1, 1, 8, Integer.MAX_VALUE}) {
                check.dueThrow("gets of none", Check.INDEX, () -> x.gets(none, b[0], b[1], b[2]));
                check.dueThrow("why of none", Check.INDEX, () -> x.why(none, b[0], b[1], b[2]));
                check.dueThrow("holds of none", Check.INDEX, () -> x.holds(none, b[0], b[1], b[2]));
                check.dueThrow("ask of none", Check.INDEX, () -> x.ask(none, b[0], b[1], b[2]));
            }
        }
        check.due("no arms by refused questions", x.arms(), 0);
        check.dueThrow("arm of none", Check.INDEX, () -> x.arm(1, 10000));
        check.dueThrow("arm of -1", Check.INDEX, () -> x.arm(-1, 0));
        check.dueThrow("arm of user -1", Check.ARGUMENT, () -> x.arm(0, -1));
        check.dueThrow("arm of user 10000", Check.ARGUMENT, () -> x.arm(0, 10000));
        check.due("the edges", x.ask(0, 9999, 9, 9), 0);
        check.due("the last user", x.arm(0, 9999), 0);
    }
}
