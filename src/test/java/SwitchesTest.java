/** Promises 1 to 15: the switches as they are told and read back. */
public final class SwitchesTest {
    private static final Check check = new Check();

    public static void main(String[] args) {
        newObject();
        add();
        addRefuses();
        weigh();
        weighRefuses();
        turn();
        ramp();
        rampRefuses();
        place();
        placeRefuses();
        placeWithoutBuckets();
        need();
        needRefuses();
        rule();
        ruleRefuses();
        unrule();
        hold();
        goOn();
        reads();
        check.end();
    }

    private static DaybreakFlags withSwitches(int many, int variants) {
        DaybreakFlags x = new DaybreakFlags();
        for (int i = 0; i < many; i++) {
            x.add(10 * i, variants, false);
        }
        return x;
    }

    private static void newObject() {
        DaybreakFlags x = new DaybreakFlags();
        check.due("switches of a new object", x.switches(), 0);
        check.due("arms of a new object", x.arms(), 0);
        for (int layer = 0; layer < 3; layer++) {
            check.due("left of a new object", x.left(layer), 1000);
        }
        check.due("hold of a new object", x.hold(0), 0);
        check.due("clock of a new object", x.goOn(1), 1);
        check.dueThrow("share(0) of a new object", Check.INDEX, () -> x.share(0));
    }

    private static void add() {
        DaybreakFlags x = new DaybreakFlags();
        check.due("add 0", x.add(0, 2, false), 0);
        check.due("add 1", x.add(498, 4, true), 1);
        check.due("add 2", x.add(0, 3, true), 2);
        check.due("switches", x.switches(), 3);
        check.due("weight of the first", x.weight(1, 0), 1000);
        for (int v = 1; v < 4; v++) {
            check.due("weight of another", x.weight(1, v), 0);
        }
        check.dueThrow("no variant 2 of 2", Check.INDEX, () -> x.weight(0, 2));
        check.dueThrow("no variant 3 of 3", Check.INDEX, () -> x.weight(2, 3));
        check.dueThrow("no variant 4 of 4", Check.INDEX, () -> x.weight(1, 4));
        check.due("off at first", x.why(1, 5, 0, 0), 0);
        check.due("share at first", x.share(0), 1000);
        check.due("step at first", x.shareIn(0, 1000), 1000);
        check.due("layer at first", x.place(0, -1, 0, 0), -1);
        check.due("need at first", x.need(1, -1, 0), -1);
        check.due("rules at first", x.rule(0, 0, 1, 0, 0), 1);
    }

    private static void addRefuses() {
        DaybreakFlags x = new DaybreakFlags();
        int[][] bad = {{-1, 2}, {499, 2}, {0, 1}, {0, 5}, {Integer.MIN_VALUE, 3}, {Integer.MAX_VALUE, 3},
            {5, Integer.MIN_VALUE}, {5, Integer.MAX_VALUE}};
        for (int[] each : bad) {
            check.dueThrow("add(" + each[0] + ", " + each[1] + ")", Check.ARGUMENT, () -> x.add(each[0], each[1], true));
        }
        check.due("switches after refused ones", x.switches(), 0);
        for (int i = 0; i < 8; i++) {
            check.due("add", x.add(i, 2, false), i);
        }
        check.dueThrow("add a ninth", Check.STATE, () -> x.add(0, 2, false));
        check.dueThrow("add a ninth with a wrong salt", Check.ARGUMENT, () -> x.add(499, 2, false));
        check.dueThrow("add a ninth with wrong variants", Check.ARGUMENT, () -> x.add(0, 1, false));
        check.due("switches", x.switches(), 8);
    }

    private static void weigh() {
        DaybreakFlags x = withSwitches(2, 4);
        check.due("weigh(0, 1, 300)", x.weigh(0, 1, 300), 700);
        check.due("weigh(0, 3, 700)", x.weigh(0, 3, 700), 0);
        check.due("weigh(0, 3, 0)", x.weigh(0, 3, 0), 700);
        check.due("weigh(0, 1, 1000)", x.weigh(0, 1, 1000), 0);
        check.due("weigh(0, 1, 250)", x.weigh(0, 1, 250), 750);
        check.due("weigh(0, 1, 250) again", x.weigh(0, 1, 250), 750);
        check.due("weight(0, 0)", x.weight(0, 0), 750);
        check.due("weight(0, 1)", x.weight(0, 1), 250);
        check.due("weight(0, 2)", x.weight(0, 2), 0);
        check.due("weight of another switch", x.weight(1, 0), 1000);
    }

    private static void weighRefuses() {
        DaybreakFlags x = withSwitches(1, 3);
        x.weigh(0, 1, 600);
        check.dueThrow("no switch", Check.INDEX, () -> x.weigh(1, 1, 5));
        check.dueThrow("no switch -1", Check.INDEX, () -> x.weigh(-1, 1, 5));
        check.dueThrow("no variant", Check.INDEX, () -> x.weigh(0, 3, 5));
        check.dueThrow("no variant -1", Check.INDEX, () -> x.weigh(0, -1, 5));
        check.dueThrow("no switch and a wrong weight", Check.INDEX, () -> x.weigh(1, 0, -1));
        check.dueThrow("no variant and a wrong weight", Check.INDEX, () -> x.weigh(0, 3, 1001));
        check.dueThrow("variant 0", Check.ARGUMENT, () -> x.weigh(0, 0, 400));
        check.dueThrow("weight -1", Check.ARGUMENT, () -> x.weigh(0, 1, -1));
        check.dueThrow("weight 1001", Check.ARGUMENT, () -> x.weigh(0, 1, 1001));
        check.dueThrow("too much", Check.ARGUMENT, () -> x.weigh(0, 2, 401));
        check.dueThrow("smallest weight", Check.ARGUMENT, () -> x.weigh(0, 1, Integer.MIN_VALUE));
        check.dueThrow("greatest weight", Check.ARGUMENT, () -> x.weigh(0, 1, Integer.MAX_VALUE));
        check.due("weight(0, 0)", x.weight(0, 0), 400);
        check.due("weight(0, 1)", x.weight(0, 1), 600);
        check.due("weight(0, 2)", x.weight(0, 2), 0);
        check.due("just enough", x.weigh(0, 2, 400), 0);
    }

    private static void turn() {
        DaybreakFlags x = withSwitches(2, 2);
        check.due("turn on", x.turn(1, true), false);
        check.due("turn on again", x.turn(1, true), true);
        check.due("it is on", x.why(1, 0, 0, 0), 8);
        check.due("the other is off", x.why(0, 0, 0, 0), 0);
        check.due("turn off", x.turn(1, false), true);
        check.due("turn off again", x.turn(1, false), false);
        check.due("it is off", x.why(1, 0, 0, 0), 0);
        check.dueThrow("turn(2)", Check.INDEX, () -> x.turn(2, true));
        check.dueThrow("turn(-1)", Check.INDEX, () -> x.turn(-1, true));
    }

    private static void ramp() {
        DaybreakFlags x = withSwitches(2, 2);
        check.due("ramp from the start", x.ramp(0, 100, 7), 1000);
        check.due("share at once", x.share(0), 100);
        x.goOn(10);
        check.due("share after 10", x.share(0), 170);
        check.due("ramp tells how far", x.ramp(0, 0, 1000), 170);
        check.due("share from 0", x.share(0), 0);
        x.goOn(1);
        check.due("share is 1000 after one", x.share(0), 1000);
        x.goOn(100);
        check.due("1000 at most", x.share(0), 1000);
        check.due("ramp tells 1000 at most", x.ramp(0, 999, 1), 1000);
        check.due("share 999", x.share(0), 999);
        x.goOn(5);
        check.due("share does not go over", x.share(0), 1000);
        check.due("ramp(1000, 1000)", x.ramp(0, 1000, 1000), 1000);
        check.due("the other one", x.share(1), 1000);
        check.due("ramp(0, 0)", x.ramp(0, 0, 0), 1000);
        x.goOn(100);
        check.due("without a step", x.share(0), 0);
    }

    private static void rampRefuses() {
        DaybreakFlags x = withSwitches(1, 2);
        x.ramp(0, 200, 3);
        int[][] bad = {{-1, 0}, {1001, 0}, {0, -1}, {0, 1001}, {Integer.MIN_VALUE, 0}, {0, Integer.MAX_VALUE}};
        for (int[] each : bad) {
            check.dueThrow("ramp", Check.ARGUMENT, () -> x.ramp(0, each[0], each[1]));
            check.dueThrow("ramp of none", Check.INDEX, () -> x.ramp(1, each[0], each[1]));
        }
        check.dueThrow("ramp(-1)", Check.INDEX, () -> x.ramp(-1, 0, 0));
        x.goOn(2);
        check.due("share as it was", x.share(0), 206);
    }

    private static void place() {
        DaybreakFlags x = withSwitches(4, 2);
        check.due("place 0", x.place(0, 0, 0, 600), -1);
        check.due("left", x.left(0), 400);
        check.due("place 1 beside it", x.place(1, 0, 600, 1000), -1);
        check.due("left", x.left(0), 0);
        check.due("another layer", x.place(2, 2, 0, 1000), -1);
        check.due("left of layer 1", x.left(1), 1000);
        check.due("left of layer 2", x.left(2), 0);
        check.due("its own range is not in the way", x.place(0, 0, 100, 500), 0);
        check.due("left", x.left(0), 200);
        check.due("to another layer", x.place(0, 1, 5, 15), 0);
        check.due("left of layer 1", x.left(1), 990);
        check.due("left of layer 0", x.left(0), 600);
        check.due("out", x.place(0, -1, 9, 3), 1);
        check.due("left of layer 1", x.left(1), 1000);
        check.due("out again", x.place(0, -1, -5, 2000), -1);
    }

    private static void placeRefuses() {
        DaybreakFlags x = withSwitches(3, 2);
        x.place(0, 0, 400, 600);
        int[][] bad = {{3, 0, 0}, {-2, 0, 0}, {0, -1, 5}, {0, 6, 5}, {0, 0, 1001}, {Integer.MIN_VALUE, 0, 0},
            {Integer.MAX_VALUE, 0, 0}, {0, Integer.MIN_VALUE, Integer.MAX_VALUE}, {0, 1001, 1001}};
        for (int[] each : bad) {
            check.dueThrow("place", Check.ARGUMENT, () -> x.place(1, each[0], each[1], each[2]));
            check.dueThrow("place of none", Check.INDEX, () -> x.place(3, each[0], each[1], each[2]));
        }
        check.dueThrow("place(-1)", Check.INDEX, () -> x.place(-1, 0, 0, 1));
        check.dueThrow("place none out", Check.INDEX, () -> x.place(3, -1, 0, 1));
        int[][] taken = {{400, 600}, {399, 401}, {599, 600}, {0, 1000}, {450, 550}, {400, 401}, {0, 401}};
        for (int[] each : taken) {
            check.dueThrow("taken", Check.STATE, () -> x.place(1, 0, each[0], each[1]));
        }
        check.dueThrow("wrong ahead of taken", Check.ARGUMENT, () -> x.place(1, 0, 300, 1001));
        check.due("it is in no layer", x.place(1, 0, 0, 400), -1);
        check.due("behind it", x.place(2, 0, 600, 1000), -1);
        check.dueThrow("a move into another's", Check.STATE, () -> x.place(1, 0, 0, 401));
        check.due("left as before", x.left(0), 0);
        check.due("it stayed", x.place(1, -1, 0, 0), 0);
        check.due("left", x.left(0), 400);
    }

    private static void placeWithoutBuckets() {
        DaybreakFlags x = withSwitches(4, 2);
        x.place(0, 1, 100, 300);
        check.due("nothing amid a range", x.place(1, 1, 200, 200), -1);
        check.due("left", x.left(1), 800);
        check.due("a range over nothing", x.place(2, 1, 300, 1000), -1);
        check.due("nothing at 1000", x.place(3, 1, 1000, 1000), -1);
        check.due("nothing at 0", x.place(3, 1, 0, 0), 1);
        check.due("a range over one without", x.place(0, 1, 150, 250), 1);
        x.turn(1, true);
        int inLayer = 0;
        for (int user = 0; user < 100; user++) {
            inLayer += x.why(1, user, 0, 0) == 5 ? 0 : 1;
        }
        check.due("nobody is in it", inLayer, 0);
    }

    private static void need() {
        DaybreakFlags x = withSwitches(4, 3);
        check.due("need(2, 1, 2)", x.need(2, 1, 2), -1);
        check.due("need(2, 0, 0)", x.need(2, 0, 0), 1);
        check.due("need(2, -1, 99)", x.need(2, -1, 99), 0);
        check.due("need(2, -1, -99)", x.need(2, -1, -99), -1);
        check.due("need(0, -1, 0)", x.need(0, -1, 0), -1);
        check.due("need(3, 2, 1)", x.need(3, 2, 1), -1);
        x.turn(3, true);
        check.due("it gets another", x.why(3, 1, 0, 0), 1);
        check.due("need in its place", x.need(3, 2, 0), 2);
        check.due("it gets that", x.why(3, 1, 0, 0), 8);
    }

    private static void needRefuses() {
        DaybreakFlags x = new DaybreakFlags();
        x.add(1, 2, false);
        x.add(2, 4, false);
        x.add(3, 3, false);
        x.need(2, 0, 1);
        check.dueThrow("no such switch", Check.INDEX, () -> x.need(3, 0, 0));
        check.dueThrow("no such switch -1", Check.INDEX, () -> x.need(-1, -1, 0));
        check.dueThrow("no such other", Check.INDEX, () -> x.need(2, 3, 0));
        check.dueThrow("no such other -2", Check.INDEX, () -> x.need(2, -2, 0));
        check.dueThrow("no variant of the other", Check.INDEX, () -> x.need(2, 0, 2));
        check.dueThrow("no variant -1 of the other", Check.INDEX, () -> x.need(2, 0, -1));
        check.dueThrow("itself", Check.ARGUMENT, () -> x.need(1, 1, 0));
        check.dueThrow("a greater one", Check.ARGUMENT, () -> x.need(0, 1, 3));
        check.dueThrow("a greater one without the variant", Check.INDEX, () -> x.need(0, 2, 3));
        check.dueThrow("itself without the variant", Check.INDEX, () -> x.need(0, 0, 2));
        check.due("as it was", x.need(2, 1, 3), 0);
        check.due("none was set", x.need(0, -1, 0), -1);
    }

    private static void rule() {
        DaybreakFlags x = withSwitches(2, 4);
        check.due("rule 1", x.rule(0, 0, 1, 0, -1), 1);
        check.due("rule 2", x.rule(0, 1, 3, 9, 3), 2);
        check.due("rule 3", x.rule(0, 1, 2, 5, 0), 3);
        check.due("rule 4", x.rule(0, 0, 2, 5, 1), 4);
        check.due("rule 5", x.rule(0, 0, 3, 5, 2), 5);
        check.due("rule of the other", x.rule(1, 0, 3, 5, 2), 1);
        check.due("holds in order", x.holds(0, 0, 5, 5), 2);
        check.due("holds in order", x.holds(0, 0, 5, 4), 3);
    }

    private static void ruleRefuses() {
        DaybreakFlags x = withSwitches(1, 3);
        int[][] bad = {{2, 1, 0}, {-1, 1, 0}, {0, 0, 0}, {0, 4, 0}, {0, 1, 10}, {0, 1, -1}};
        for (int[] each : bad) {
            check.dueThrow("rule", Check.ARGUMENT, () -> x.rule(0, each[0], each[1], each[2], 1));
            check.dueThrow("rule without variant", Check.INDEX, () -> x.rule(0, each[0], each[1], each[2], 3));
            check.dueThrow("rule of none", Check.INDEX, () -> x.rule(1, each[0], each[1], each[2], -1));
        }
        check.dueThrow("variant -2", Check.INDEX, () -> x.rule(0, 0, 1, 0, -2));
        check.dueThrow("variant 3 of 3", Check.INDEX, () -> x.rule(0, 0, 1, 0, 3));
        check.due("the first one", x.rule(0, 0, 1, 0, 2), 1);
        for (int i = 2; i <= 5; i++) {
            check.due("another one", x.rule(0, 0, 1, 0, -1), i);
        }
        check.dueThrow("a sixth", Check.STATE, () -> x.rule(0, 0, 1, 0, -1));
        check.dueThrow("a sixth with a wrong mark", Check.ARGUMENT, () -> x.rule(0, 2, 1, 0, -1));
        check.dueThrow("a sixth with a wrong variant", Check.INDEX, () -> x.rule(0, 2, 1, 0, 3));
        check.due("left of five", x.unrule(0, 4), 4);
        check.due("a fifth again", x.rule(0, 1, 3, 9, 0), 5);
    }

    private static void unrule() {
        DaybreakFlags x = withSwitches(2, 2);
        for (int n = 1; n <= 5; n++) {
            x.rule(0, 0, 2, n, -1);
        }
        check.due("take the second away", x.unrule(0, 1), 4);
        check.due("the first stays", x.holds(0, 0, 1, 0), 0);
        check.due("the second is gone", x.holds(0, 0, 2, 0), -1);
        check.due("the third moves up", x.holds(0, 0, 3, 0), 1);
        check.due("the fifth moves up", x.holds(0, 0, 5, 0), 3);
        check.dueThrow("rule 4", Check.INDEX, () -> x.unrule(0, 4));
        check.dueThrow("rule -1", Check.INDEX, () -> x.unrule(0, -1));
        check.dueThrow("rule of another", Check.INDEX, () -> x.unrule(1, 0));
        check.dueThrow("no such switch", Check.INDEX, () -> x.unrule(2, 0));
        check.due("take the last away", x.unrule(0, 3), 3);
        check.due("the last is gone", x.holds(0, 0, 5, 0), -1);
        check.due("take the first away", x.unrule(0, 0), 2);
        check.due("the others move up", x.holds(0, 0, 3, 0), 0);
        check.due("one left", x.unrule(0, 0), 1);
        check.due("none left", x.unrule(0, 0), 0);
        check.dueThrow("of none", Check.INDEX, () -> x.unrule(0, 0));
        x.turn(0, true);
        check.due("without rules again", x.why(0, 0, 9, 9), 8);
        check.due("the first one anew", x.rule(0, 1, 2, 7, 1), 1);
        check.due("it holds", x.holds(0, 0, 0, 7), 0);
    }

    private static void hold() {
        DaybreakFlags x = new DaybreakFlags();
        check.due("hold(1000)", x.hold(1000), 0);
        check.due("hold(7)", x.hold(7), 1000);
        check.dueThrow("hold(-1)", Check.ARGUMENT, () -> x.hold(-1));
        check.dueThrow("hold(1001)", Check.ARGUMENT, () -> x.hold(1001));
        check.due("hold(0)", x.hold(0), 7);
        check.due("hold(0) again", x.hold(0), 0);
    }

    private static void goOn() {
        DaybreakFlags x = new DaybreakFlags();
        check.due("goOn(1)", x.goOn(1), 1);
        check.due("goOn(100)", x.goOn(100), 101);
        check.dueThrow("goOn(0)", Check.ARGUMENT, () -> x.goOn(0));
        check.dueThrow("goOn(101)", Check.ARGUMENT, () -> x.goOn(101));
        check.dueThrow("goOn(-1)", Check.ARGUMENT, () -> x.goOn(-1));
        check.dueThrow("goOn(MIN)", Check.ARGUMENT, () -> x.goOn(Integer.MIN_VALUE));
        check.due("goOn(3)", x.goOn(3), 104);
    }

    private static void reads() {
        DaybreakFlags x = withSwitches(2, 2);
        check.due("switches", x.switches(), 2);
        check.dueThrow("weight of none", Check.INDEX, () -> x.weight(2, 0));
        check.dueThrow("weight of -1", Check.INDEX, () -> x.weight(-1, 0));
        check.dueThrow("weight of variant -1", Check.INDEX, () -> x.weight(0, -1));
        check.dueThrow("weight of variant 2", Check.INDEX, () -> x.weight(0, 2));
        check.dueThrow("share of none", Check.INDEX, () -> x.share(2));
        check.dueThrow("share of -1", Check.INDEX, () -> x.share(-1));
        check.dueThrow("share of the 9th", Check.INDEX, () -> x.share(8));
        check.dueThrow("left(3)", Check.INDEX, () -> x.left(3));
        check.dueThrow("left(-1)", Check.INDEX, () -> x.left(-1));
        check.dueThrow("left(MIN)", Check.INDEX, () -> x.left(Integer.MIN_VALUE));
    }
}
