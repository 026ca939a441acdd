/** Promises 31 to 36: what would be, which changes nothing, and the digest. */
public final class WhatWouldBeTest {
    private static final Check check = new Check();

    public static void main(String[] args) {
        reach();
        both();
        wouldChange();
        wouldTurn();
        shareIn();
        refuses();
        nothingIsChanged();
        digest();
        check.end();
    }

    private static DaybreakFlags busy() {
        DaybreakFlags x = new DaybreakFlags();
        x.add(17, 2, false);
        x.add(250, 3, true);
        x.add(498, 4, false);
        x.add(91, 2, true);
        x.weigh(0, 1, 500);
        x.weigh(1, 1, 333);
        x.weigh(1, 2, 334);
        x.weigh(2, 3, 900);
        x.weigh(3, 1, 1000);
        x.turn(0, true);
        x.turn(1, true);
        x.turn(2, true);
        x.rule(1, 0, 3, 3, -1);
        x.rule(1, 1, 2, 4, 2);
        x.need(2, 1, 0);
        x.need(3, 1, 2);
        x.ramp(0, 300, 5);
        x.place(0, 0, 0, 600);
        x.place(2, 0, 600, 1000);
        x.hold(100);
        x.goOn(7);
        for (int user = 0; user < 10; user++) {
            x.ask(0, user, user, 0);
            x.ask(1, user, 9 - user, 4);
            x.act(user, user * 7);
        }
        return x;
    }

    private static int first(int user) {
        return user % 10;
    }

    private static int second(int user) {
        return user / 10 % 10;
    }

    private static void reach() {
        for (int many : new int[] {1, 2, 99, 100, 101, 200}) {
            for (int one = 0; one < 4; one++) {
                DaybreakFlags x = busy();
                int[] want = new int[4];
                for (int user = 0; user < many; user++) {
                    want[x.gets(one, user, first(user), second(user))]++;
                }
                int variants = one == 1 ? 3 : one == 2 ? 4 : 2;
                for (int variant = 0; variant < variants; variant++) {
                    check.due("reach(" + one + ", " + variant + ", " + many + ")", x.reach(one, variant, many), want[variant]);
                }
            }
        }
        DaybreakFlags y = new DaybreakFlags();
        y.add(1, 3, false);
        check.due("all of them when off", y.reach(0, 0, 200), 200);
        y.turn(0, true);
        y.rule(0, 0, 2, 3, 1);
        y.rule(0, 1, 2, 9, 2);
        check.due("those with mark 0 of 3", y.reach(0, 1, 200), 20);
        check.due("those with mark 1 of 9 beside", y.reach(0, 2, 200), 18);
        check.due("up to 90", y.reach(0, 2, 90), 0);
        check.due("up to 91", y.reach(0, 2, 91), 1);
        check.due("user 3 is not among 3", y.reach(0, 1, 3), 0);
        check.due("user 3 is among 4", y.reach(0, 1, 4), 1);
    }

    private static void both() {
        for (int one = 0; one < 4; one++) {
            for (int other = 0; other < 4; other++) {
                DaybreakFlags x = busy();
                int want = 0;
                for (int user = 0; user < 150; user++) {
                    boolean isOne = x.why(one, user, first(user), second(user)) == 8;
                    want += isOne && x.why(other, user, first(user), second(user)) == 8 ? 1 : 0;
                }
                check.due("both(" + one + ", " + other + ")", x.both(one, other, 150), want);
            }
        }
        DaybreakFlags y = new DaybreakFlags();
        y.add(1, 2, false);
        y.add(2, 2, false);
        y.turn(0, true);
        check.due("one is off", y.both(0, 1, 50), 0);
        check.due("one with itself", y.both(0, 0, 50), 50);
        y.turn(1, true);
        check.due("both split", y.both(0, 1, 50), 50);
        y.rule(1, 0, 2, 0, -1);
        check.due("a tenth of one", y.both(0, 1, 50), 5);
        y.rule(1, 0, 2, 1, 0);
        check.due("a rule is no split", y.both(1, 0, 50), 5);
    }

    private static void wouldChange() {
        DaybreakFlags x = new DaybreakFlags();
        x.add(60, 2, false);
        x.weigh(0, 1, 1000);
        x.turn(0, true);
        x.ramp(0, 400, 0);
        for (int share : new int[] {0, 1, 250, 399, 400, 401, 700, 999, 1000}) {
            int want = 0;
            for (int user = 0; user < 200; user++) {
                int bucket = Users.bucket(61, user);
                want += bucket < 400 != bucket < share ? 1 : 0;
            }
            check.due("wouldChange(" + share + ")", x.wouldChange(0, share, 200), want);
        }
        check.due("as far as it is", x.wouldChange(0, 400, 200), 0);
        check.due("share as it was", x.share(0), 400);
        x.weigh(0, 1, 0);
        check.due("another reason is no other variant", x.wouldChange(0, 0, 200), 0);
        x.weigh(0, 1, 1000);
        x.turn(0, false);
        check.due("off", x.wouldChange(0, 0, 200), 0);
        x.turn(0, true);
        x.add(90, 2, false);
        x.turn(1, true);
        x.need(1, 0, 1);
        check.due("only its own ramp", x.wouldChange(1, 1000, 200), 0);
    }

    private static void wouldTurn() {
        DaybreakFlags x = new DaybreakFlags();
        x.add(60, 2, false);
        x.add(90, 2, false);
        x.weigh(0, 1, 400);
        check.due("on, it tells some 1", x.wouldTurn(0, 200), countIn(60, 600, 1000));
        x.turn(0, true);
        check.due("off, it tells all 0", x.wouldTurn(0, 200), countIn(60, 600, 1000));
        x.need(1, 0, 0);
        x.weigh(1, 1, 1000);
        x.turn(1, true);
        check.due("or the other one changes", x.wouldTurn(0, 200), countIn(60, 600, 1000));
        x.weigh(0, 1, 0);
        x.turn(0, false);
        x.need(1, -1, 0);
        check.due("nobody", x.wouldTurn(0, 200), 0);
        check.due("all", x.wouldTurn(1, 200), 200);
        x.rule(0, 0, 2, 7, 1);
        x.need(1, 0, 1);
        check.due("those of a rule, once each", x.wouldTurn(0, 200), 20);
        check.due("off now, nobody gets it", x.wouldTurn(1, 200), 0);
        x.turn(0, true);
        check.due("on now, those of the rule", x.wouldTurn(1, 200), 20);
        check.due("it is on as before", x.turn(0, true), true);
        chain();
    }

    /** Only one at the end of a chain shows a difference: the ones between tell 0 either way. */
    private static void chain() {
        DaybreakFlags x = new DaybreakFlags();
        for (int i = 0; i < 8; i++) {
            x.add(i, 2, false);
            x.turn(i, true);
        }
        x.weigh(0, 1, 1000);
        x.weigh(7, 1, 1000);
        x.need(7, 0, 1);
        x.turn(0, false);
        check.due("from off", x.wouldTurn(0, 30), 30);
        x.turn(0, true);
        check.due("from on", x.wouldTurn(0, 30), 30);
        x.turn(7, false);
        x.weigh(0, 1, 0);
        x.need(7, 0, 0);
        check.due("nothing to see", x.wouldTurn(0, 30), 0);
        check.due("the last one", x.wouldTurn(7, 30), 30);
    }

    private static int countIn(int salt, int from, int to) {
        int many = 0;
        for (int user = 0; user < 200; user++) {
            int bucket = Users.bucket(salt, user);
            many += bucket >= from && bucket < to ? 1 : 0;
        }
        return many;
    }

    private static void shareIn() {
        DaybreakFlags x = new DaybreakFlags();
        x.add(60, 2, false);
        check.due("at first", x.shareIn(0, 0), 1000);
        x.goOn(10);
        x.ramp(0, 5, 3);
        x.goOn(2);
        check.due("now", x.shareIn(0, 0), 11);
        check.due("after 1", x.shareIn(0, 1), 14);
        check.due("after 329", x.shareIn(0, 329), 998);
        check.due("after 330", x.shareIn(0, 330), 1000);
        check.due("after 1000", x.shareIn(0, 1000), 1000);
        check.due("nothing went on", x.share(0), 11);
        x.ramp(0, 0, 1);
        check.due("slowly", x.shareIn(0, 999), 999);
    }

    private static void refuses() {
        DaybreakFlags x = busy();
        long before = x.digest();
        for (int none : new int[] {-1, 4, 8, Integer.MIN_VALUE, Integer.MAX_VALUE}) {
            check.dueThrow("reach", Check.INDEX, () -> x.reach(none, 0, 0));
            check.dueThrow("both", Check.INDEX, () -> x.both(none, 0, 0));
            check.dueThrow("both other", Check.INDEX, () -> x.both(0, none, 0));
            check.dueThrow("wouldChange", Check.INDEX, () -> x.wouldChange(none, -1, 0));
            check.dueThrow("wouldTurn", Check.INDEX, () -> x.wouldTurn(none, 0));
            check.dueThrow("shareIn", Check.INDEX, () -> x.shareIn(none, -1));
        }
        check.dueThrow("reach of variant 2", Check.INDEX, () -> x.reach(0, 2, 0));
        check.dueThrow("reach of variant -1", Check.INDEX, () -> x.reach(0, -1, 5));
        for (int many : new int[] {0, 201, -1, Integer.MIN_VALUE, Integer.MAX_VALUE}) {
            check.dueThrow("reach many", Check.ARGUMENT, () -> x.reach(0, 0, many));
            check.dueThrow("both many", Check.ARGUMENT, () -> x.both(0, 1, many));
            check.dueThrow("wouldChange many", Check.ARGUMENT, () -> x.wouldChange(0, 5, many));
            check.dueThrow("wouldTurn many", Check.ARGUMENT, () -> x.wouldTurn(0, many));
        }
        check.dueThrow("share -1", Check.ARGUMENT, () -> x.wouldChange(0, -1, 5));
        check.dueThrow("share 1001", Check.ARGUMENT, () -> x.wouldChange(0, 1001, 5));
        check.dueThrow("ticks -1", Check.ARGUMENT, () -> x.shareIn(0, -1));
        check.dueThrow("ticks 1001", Check.ARGUMENT, () -> x.shareIn(0, 1001));
        check.due("digest as before", x.digest(), before);
    }

    private static void nothingIsChanged() {
        DaybreakFlags x = busy();
        long before = x.digest();
        for (int one = 0; one < 4; one++) {
            x.reach(one, 0, 200);
            x.both(one, 1, 200);
            x.wouldChange(one, 0, 200);
            x.wouldChange(one, 1000, 200);
            x.wouldTurn(one, 200);
            x.shareIn(one, 1000);
            check.due("gets after", x.gets(one, 7, 7, 2), busy().gets(one, 7, 7, 2));
        }
        check.due("digest after all", x.digest(), before);
        check.due("digest of the same calls", busy().digest(), before);
    }

    private static void digest() {
        check.due("digest of nothing", new DaybreakFlags().digest(), 76927521737L);
        DaybreakFlags x = busy();
        long d = 2687;
        d = d * 31 + x.switches();
        d = d * 31 + x.arms();
        for (int layer = 0; layer < 3; layer++) {
            d = d * 31 + x.left(layer);
        }
        int[] variants = {2, 3, 4, 2};
        for (int one = 0; one < 4; one++) {
            d = d * 31 + x.share(one);
            d = d * 31 + x.bad(one);
            d = d * 31 + (x.isTrusted(one) ? 1 : 0);
            d = d * 31 + x.best(one);
            for (int variant = 0; variant < variants[one]; variant++) {
                d = d * 31 + x.weight(one, variant);
                for (int what = 0; what < 4; what++) {
                    d = d * 31 + x.told(one, variant, what);
                }
                d = d * 31 + x.reach(one, variant, 20);
            }
        }
        for (int user = 0; user < 10; user++) {
            for (int one = 0; one < 4; one++) {
                d = d * 31 + x.gets(one, user, user, 9 - user);
                d = d * 31 + x.why(one, user, user, 9 - user);
                d = d * 31 + x.arm(one, user);
            }
        }
        check.due("digest", x.digest(), d);
    }
}
