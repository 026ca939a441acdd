/** Promises 24 to 30: what came of the arms. */
public final class WhatCameOfItTest {
    private static final Check check = new Check();

    public static void main(String[] args) {
        told();
        squaresOfOneWhoActsOften();
        numbers();
        sureIsNothingWithoutSpread();
        withoutArms();
        bad();
        badCutsEach();
        badBounds();
        trustedNoMore();
        best();
        refuses();
        check.end();
    }

    /** A switch that is on, with all of its weight on variant 0. */
    private static DaybreakFlags withOne(int variants) {
        DaybreakFlags x = new DaybreakFlags();
        x.add(60, variants, false);
        x.turn(0, true);
        return x;
    }

    /** Gives arms of a variant to many users, from one on, by moving all of the weight there meanwhile. */
    private static void show(DaybreakFlags x, int variant, int from, int many) {
        if (variant != 0) {
            x.weigh(0, variant, 1000);
        }
        for (int user = from; user < from + many; user++) {
            check.due("shown", x.ask(0, user, 0, 0), variant);
        }
        if (variant != 0) {
            x.weigh(0, variant, 0);
        }
    }

    private static void told() {
        DaybreakFlags x = withOne(3);
        show(x, 0, 0, 2);
        show(x, 2, 10, 3);
        x.act(10, 7);
        x.act(10, 5);
        x.act(11, 0);
        x.act(0, 100);
        int[][] want = {{2, 1, 100, 10000}, {0, 0, 0, 0}, {3, 2, 12, 144}};
        for (int variant = 0; variant < 3; variant++) {
            for (int what = 0; what < 4; what++) {
                check.due("told(0, " + variant + ", " + what + ")", x.told(0, variant, what), want[variant][what]);
            }
        }
        x.act(12, 9);
        check.due("acted", x.told(0, 2, 1), 3);
        check.due("sum", x.told(0, 2, 2), 21);
        check.due("squares", x.told(0, 2, 3), 144 + 81);
    }

    private static void squaresOfOneWhoActsOften() {
        DaybreakFlags x = withOne(2);
        show(x, 0, 0, 1);
        for (int i = 0; i < 400; i++) {
            x.act(0, 100);
        }
        check.due("sum", x.told(0, 0, 2), 40000);
        check.due("squares", x.told(0, 0, 3), 1600000000);
        check.dueDouble("mean", x.mean(0, 0), 40000.0);
    }

    private static void numbers() {
        DaybreakFlags x = withOne(2);
        show(x, 0, 0, 3);
        show(x, 1, 10, 4);
        x.act(0, 1);
        x.act(1, 2);
        x.act(2, 2);
        x.act(10, 10);
        x.act(11, 20);
        x.act(12, 3);
        double mean0 = 5.0 / 3;
        double mean1 = 33.0 / 4;
        check.dueDouble("mean 0", x.mean(0, 0), mean0);
        check.dueDouble("mean 1", x.mean(0, 1), 8.25);
        check.dueDouble("lift 1", x.lift(0, 1), mean1 - mean0);
        check.dueDouble("lift 0", x.lift(0, 0), 0.0);
        double spread0 = 9.0 / 3 - mean0 * mean0;
        double spread1 = 509.0 / 4 - mean1 * mean1;
        double lift = mean1 - mean0;
        check.dueDouble("sure 1", x.sure(0, 1), lift * lift / (spread1 / 4 + spread0 / 3));
        check.dueDouble("sure 0", x.sure(0, 0), 0.0);
    }

    private static void sureIsNothingWithoutSpread() {
        DaybreakFlags x = withOne(2);
        show(x, 0, 0, 2);
        check.dueDouble("one has no arms", x.sure(0, 1), 0.0);
        show(x, 1, 10, 2);
        x.act(10, 5);
        x.act(11, 5);
        check.dueDouble("lift", x.lift(0, 1), 5.0);
        check.dueDouble("no spread", x.sure(0, 1), 0.0);
        x.act(0, 2);
        check.dueDouble("spread of the first alone", x.sure(0, 1), 32.0);
    }

    private static void withoutArms() {
        DaybreakFlags x = withOne(3);
        show(x, 2, 0, 1);
        x.act(0, 40);
        check.dueDouble("mean of none", x.mean(0, 0), 0.0);
        check.dueDouble("lift over none", x.lift(0, 2), 40.0);
        check.dueDouble("lift of none", x.lift(0, 1), 0.0);
        check.dueDouble("the first has no arms", x.sure(0, 2), 0.0);
        DaybreakFlags y = withOne(2);
        show(y, 0, 0, 1);
        y.act(0, 9);
        check.dueDouble("a lift below 0", y.lift(0, 1), -9.0);
    }

    private static void bad() {
        DaybreakFlags x = withOne(2);
        check.due("bad without arms", x.bad(0), 0);
        check.due("trusted without arms", x.isTrusted(0), true);
        show(x, 0, 0, 3);
        check.due("all as due", x.bad(0), 0);
        x.weigh(0, 1, 500);
        check.due("3 of 3", x.bad(0), 2 * (1500 * 1500 / 15000));
        check.due("trusted", x.isTrusted(0), true);
        x.weigh(0, 1, 0);
        show(x, 1, 10, 1);
        x.weigh(0, 1, 500);
        check.due("3 and 1", x.bad(0), 2 * (1000 * 1000 / 20000));
    }

    private static void badCutsEach() {
        DaybreakFlags x = withOne(3);
        show(x, 0, 0, 2);
        show(x, 1, 10, 1);
        show(x, 2, 20, 4);
        x.weigh(0, 1, 333);
        x.weigh(0, 2, 334);
        int want = 0;
        int[][] each = {{2, 333}, {1, 333}, {4, 334}};
        for (int[] variant : each) {
            int off = variant[0] * 1000 - 7 * variant[1];
            want += off * off / (7 * variant[1] * 10);
        }
        check.due("each cut", x.bad(0), want);
        DaybreakFlags y = withOne(2);
        show(y, 0, 0, 50);
        show(y, 1, 50, 50);
        y.weigh(0, 1, 1);
        long off0 = 50L * 1000 - 100 * 999;
        long off1 = 50L * 1000 - 100;
        check.due("nothing wraps", y.bad(0), off0 * off0 / (100 * 999 * 10) + off1 * off1 / (100 * 10));
        check.due("not trusted", y.isTrusted(0), false);
        DaybreakFlags z = withOne(2);
        show(z, 1, 0, 1);
        z.weigh(0, 1, 1);
        check.due("the one arm is of the least weight", z.bad(0), 999 * 999 / 9990 + 999 * 999 / 10);
    }

    private static void badBounds() {
        trust(3, new int[] {439, 561}, 383, true);
        trust(2, new int[] {342, 658}, 384, true);
        trust(1, new int[] {206, 794}, 385, false);
        trust(2, new int[] {250, 57, 693}, 599, true);
        trust(2, new int[] {250, 50, 700}, 600, false);
        trust(3, new int[] {277, 43, 43, 637}, 781, true);
        trust(1, new int[] {113, 29, 29, 829}, 782, false);
        trust(30, new int[] {1000}, 0, true);
        trust(2, new int[] {342, 0, 0, 658}, 384, true);
        trust(1, new int[] {206, 0, 0, 794}, 385, false);
        trust(1, new int[] {180, 819, 1}, 373 + 81, true);
        trust(2, new int[] {250, 0, 50, 700}, 600, false);
    }

    /** Shows variant 0 to some, then sets the weights. */
    private static void trust(int arms, int[] weights, int bad, boolean isTrusted) {
        DaybreakFlags x = withOne(4);
        show(x, 0, 0, arms);
        for (int variant = 1; variant < weights.length; variant++) {
            x.weigh(0, variant, weights[variant]);
        }
        check.due("bad", x.bad(0), bad);
        check.due("trusted at " + bad, x.isTrusted(0), isTrusted);
    }

    private static void trustedNoMore() {
        DaybreakFlags x = withOne(3);
        x.weigh(0, 1, 500);
        for (int user = 0; user < 40; user++) {
            x.ask(0, user, 0, 0);
        }
        check.due("some of 1", x.told(0, 1, 0) > 0, true);
        check.due("trusted", x.isTrusted(0), true);
        x.weigh(0, 1, 0);
        check.due("arms of a variant without weight", x.isTrusted(0), false);
        long n = 40;
        long off = x.told(0, 0, 0) * 1000 - n * 1000;
        check.due("bad looks at those with weight", x.bad(0), off * off / (n * 1000 * 10));
        DaybreakFlags y = withOne(3);
        show(y, 0, 0, 1);
        show(y, 2, 1, 1);
        y.weigh(0, 1, 1000);
        check.due("arms of others alone", y.isTrusted(0), false);
        check.due("bad of the weighed one", y.bad(0), 2000 * 2000 / 20000);
    }

    private static void best() {
        DaybreakFlags x = withOne(4);
        check.due("none", x.best(0), -1);
        show(x, 1, 10, 2);
        check.due("the only one, with nothing", x.best(0), 1);
        show(x, 0, 0, 1);
        check.due("of several the smallest", x.best(0), 0);
        show(x, 3, 30, 1);
        x.act(30, 5);
        check.due("the greatest", x.best(0), 3);
        x.act(10, 5);
        check.due("means, not sums", x.best(0), 3);
        x.act(11, 5);
        check.due("the same mean, a smaller number", x.best(0), 1);
        x.act(30, 1);
        check.due("the greatest again", x.best(0), 3);
        x.turn(0, false);
        check.due("off is no matter", x.best(0), 3);
    }

    private static void refuses() {
        DaybreakFlags x = withOne(3);
        for (int none : new int[] {-1, 1, 8, Integer.MIN_VALUE, Integer.MAX_VALUE}) {
            check.dueThrow("told", Check.INDEX, () -> x.told(none, 0, 0));
            check.dueThrow("told, what wrong too", Check.INDEX, () -> x.told(none, 0, 4));
            check.dueThrow("mean", Check.INDEX, () -> x.mean(none, 0));
            check.dueThrow("lift", Check.INDEX, () -> x.lift(none, 0));
            check.dueThrow("sure", Check.INDEX, () -> x.sure(none, 0));
            check.dueThrow("bad", Check.INDEX, () -> x.bad(none));
            check.dueThrow("isTrusted", Check.INDEX, () -> x.isTrusted(none));
            check.dueThrow("best", Check.INDEX, () -> x.best(none));
        }
        for (int none : new int[] {-1, 3, 4, Integer.MIN_VALUE, Integer.MAX_VALUE}) {
            check.dueThrow("told of a variant", Check.INDEX, () -> x.told(0, none, 0));
            check.dueThrow("told of a variant, what wrong too", Check.INDEX, () -> x.told(0, none, -1));
            check.dueThrow("mean of a variant", Check.INDEX, () -> x.mean(0, none));
            check.dueThrow("lift of a variant", Check.INDEX, () -> x.lift(0, none));
            check.dueThrow("sure of a variant", Check.INDEX, () -> x.sure(0, none));
        }
        check.dueThrow("what -1", Check.ARGUMENT, () -> x.told(0, 0, -1));
        check.dueThrow("what 4", Check.ARGUMENT, () -> x.told(0, 0, 4));
    }
}
