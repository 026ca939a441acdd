import java.util.Random;

/** Long runs of calls, right and wrong ones, each held against the model: all promises, and that a refused call changes nothing. */
public final class ModelTest {
    private static final int RUNS = 300;
    private static final int CALLS = 480;
    private static final int[] WILD = {-1, -2, Integer.MIN_VALUE, Integer.MAX_VALUE, 1001, 10000, 201, 101, 10, 9};

    private final Check check;
    private final Random random;
    private final boolean isWild;
    private final DaybreakFlags x = new DaybreakFlags();
    private final Model model = new Model();
    private final int users;

    interface LongCall {
        long make();
    }

    interface DoubleCall {
        double make();
    }

    private ModelTest(Check check, int run) {
        this.check = check;
        random = new Random(run);
        isWild = run % 3 != 0;
        users = run % 2 == 0 ? 15 : 150;
    }

    public static void main(String[] args) {
        Check check = new Check();
        for (int run = 0; run < RUNS; run++) {
            new ModelTest(check, run).run(run);
        }
        check.end();
    }

    private void run(int run) {
        int switches = 1 + random.nextInt(8);
        for (int i = 0; i < switches; i++) {
            add();
        }
        for (int i = switches; i < CALLS; i++) {
            String call = "run " + run + ", call " + i + ", ";
            if (random.nextInt(3) == 0) {
                tell(call);
            } else if (random.nextInt(2) == 0) {
                happen(call);
            } else {
                look(call);
            }
        }
    }

    /** A number from least to most; in wild runs now and then something else. */
    private int any(int least, int most) {
        if (isWild && random.nextInt(25) == 0) {
            int which = random.nextInt(WILD.length + 2);
            return which < WILD.length ? WILD[which] : which == WILD.length ? least - 1 : most + 1;
        }
        int edge = random.nextInt(12);
        return edge == 0 ? least : edge == 1 ? most : least + random.nextInt(most - least + 1);
    }

    private int anyOne() {
        return any(0, Math.max(0, model.told.size() - 1));
    }

    private int anyVariant(int one) {
        boolean isThere = one >= 0 && one < model.told.size();
        return any(0, isThere ? model.told.get(one).weights.size() - 1 : 1);
    }

    private int anyUser() {
        return random.nextInt(40) == 0 ? any(0, 9999) : any(0, users);
    }

    private void same(String call, LongCall got, LongCall want) {
        String[] threw = new String[2];
        long[] answers = new long[2];
        for (int i = 0; i < 2; i++) {
            try {
                answers[i] = i == 0 ? got.make() : want.make();
            } catch (RuntimeException thrown) {
                threw[i] = thrown.getClass().getName();
            }
        }
        boolean isSame = threw[0] == null ? threw[1] == null : threw[0].equals(threw[1]);
        check.due(call + " threw " + threw[0] + ", due is " + threw[1] + ": same", isSame, true);
        check.due(call, answers[0], answers[1]);
    }

    private void sameDouble(String call, DoubleCall got, DoubleCall want) {
        same(call, () -> Double.doubleToLongBits(got.make()), () -> Double.doubleToLongBits(want.make()));
    }

    private static long number(boolean answer) {
        return answer ? 1 : 0;
    }

    private void add() {
        int salt = any(0, 498);
        int variants = any(2, 4);
        boolean sticky = random.nextBoolean();
        same("add(" + salt + ", " + variants + ")", () -> x.add(salt, variants, sticky), () -> model.add(salt, variants, sticky));
    }

    private void tell(String call) {
        int one = anyOne();
        int variant = anyVariant(one);
        switch (random.nextInt(11)) {
            case 0:
                if (random.nextInt(4) == 0) {
                    add();
                }
                break;
            case 1:
            case 2:
                int weight = random.nextInt(3) == 0 ? any(0, 1000) : any(0, 400);
                same(call + "weigh(" + one + ", " + variant + ", " + weight + ")",
                    () -> x.weigh(one, variant, weight), () -> model.weigh(one, variant, weight));
                break;
            case 3:
                boolean on = random.nextInt(4) > 0;
                same(call + "turn", () -> number(x.turn(one, on)), () -> model.turn(one, on));
                break;
            case 4:
                int share = any(0, 1000);
                int step = random.nextInt(3) == 0 ? any(0, 1000) : any(0, 20);
                same(call + "ramp", () -> x.ramp(one, share, step), () -> model.ramp(one, share, step));
                break;
            case 5:
                int layer = any(-1, 2);
                int from = any(0, 1000);
                int to = random.nextInt(3) == 0 ? from : any(0, 1000);
                same(call + "place(" + one + ", " + layer + ", " + from + ", " + to + ")",
                    () -> x.place(one, layer, from, to), () -> model.place(one, layer, from, to));
                break;
            case 6:
                int other = random.nextInt(3) == 0 ? anyOne() : any(-1, Math.min(Math.max(one - 1, -1), 7));
                int needed = anyVariant(other);
                same(call + "need(" + one + ", " + other + ", " + needed + ")",
                    () -> x.need(one, other, needed), () -> model.need(one, other, needed));
                break;
            case 7:
                int mark = any(0, 1);
                int how = any(1, 3);
                int n = any(0, 9);
                int told = random.nextInt(2) == 0 ? -1 : variant;
                same(call + "rule", () -> x.rule(one, mark, how, n, told), () -> model.rule(one, mark, how, n, told));
                break;
            case 8:
                int rule = any(0, 3);
                same(call + "unrule", () -> x.unrule(one, rule), () -> model.unrule(one, rule));
                break;
            case 9:
                int held = random.nextInt(3) == 0 ? any(0, 1000) : any(0, 200);
                same(call + "hold", () -> x.hold(held), () -> model.hold(held));
                break;
            default:
                int ticks = any(1, 100);
                same(call + "goOn", () -> x.goOn(ticks), () -> model.goOn(ticks));
                break;
        }
    }

    private void happen(String call) {
        int one = anyOne();
        int user = anyUser();
        if (random.nextInt(3) == 0) {
            int worth = any(0, 100);
            same(call + "act", () -> x.act(user, worth), () -> model.act(user, worth));
        } else {
            int first = any(0, 9);
            int second = any(0, 9);
            same(call + "ask", () -> x.ask(one, user, first, second), () -> model.ask(one, user, first, second));
        }
    }

    private void look(String call) {
        int one = anyOne();
        int variant = anyVariant(one);
        int user = anyUser();
        int first = any(0, 9);
        int second = any(0, 9);
        int many = random.nextInt(4) == 0 ? any(1, 200) : any(1, 30);
        switch (random.nextInt(23)) {
            case 0:
                same(call + "switches", () -> x.switches(), () -> model.told.size());
                break;
            case 1:
                same(call + "weight", () -> x.weight(one, variant), () -> model.weight(one, variant));
                break;
            case 2:
                same(call + "share", () -> x.share(one), () -> model.share(one));
                break;
            case 3:
                int layer = any(0, 2);
                same(call + "left", () -> x.left(layer), () -> model.left(layer));
                break;
            case 4:
                int salt = any(0, 999);
                same(call + "bucket", () -> x.bucket(salt, user), () -> model.bucket(salt, user));
                break;
            case 5:
                same(call + "gets", () -> x.gets(one, user, first, second), () -> model.gets(one, user, first, second));
                break;
            case 6:
                same(call + "why", () -> x.why(one, user, first, second), () -> model.why(one, user, first, second));
                break;
            case 7:
                same(call + "holds", () -> x.holds(one, user, first, second), () -> model.holds(one, user, first, second));
                break;
            case 8:
                same(call + "arm", () -> x.arm(one, user), () -> model.arm(one, user));
                break;
            case 9:
                same(call + "arms", () -> x.arms(), () -> model.arms.size());
                break;
            case 10:
                int what = any(0, 3);
                same(call + "told", () -> x.told(one, variant, what), () -> model.told(one, variant, what));
                break;
            case 11:
                sameDouble(call + "mean", () -> x.mean(one, variant), () -> model.mean(one, variant));
                break;
            case 12:
                sameDouble(call + "lift", () -> x.lift(one, variant), () -> model.lift(one, variant));
                break;
            case 13:
                sameDouble(call + "sure", () -> x.sure(one, variant), () -> model.sure(one, variant));
                break;
            case 14:
                same(call + "bad", () -> x.bad(one), () -> model.bad(one));
                break;
            case 15:
                same(call + "isTrusted", () -> number(x.isTrusted(one)), () -> model.isTrusted(one));
                break;
            case 16:
                same(call + "best", () -> x.best(one), () -> model.best(one));
                break;
            case 17:
                same(call + "reach", () -> x.reach(one, variant, many), () -> model.reach(one, variant, many));
                break;
            case 18:
                int other = anyOne();
                same(call + "both", () -> x.both(one, other, many), () -> model.both(one, other, many));
                break;
            case 19:
                int share = any(0, 1000);
                same(call + "wouldChange", () -> x.wouldChange(one, share, many), () -> model.wouldChange(one, share, many));
                break;
            case 20:
                same(call + "wouldTurn", () -> x.wouldTurn(one, many), () -> model.wouldTurn(one, many));
                break;
            case 21:
                int ticks = random.nextBoolean() ? any(0, 1000) : any(0, 30);
                same(call + "shareIn", () -> x.shareIn(one, ticks), () -> model.shareIn(one, ticks));
                break;
            default:
                same(call + "digest", () -> x.digest(), () -> model.digest());
                break;
        }
    }
}
