import java.util.ArrayList;
import java.util.LinkedHashMap;
import java.util.List;
import java.util.Map;

/**
 * The document once more, in the plainest way: it keeps what was told and reckons everything anew from that; what
 * would be is looked at in a copy. It shares no code and no way of keeping things with the class that it is held against.
 */
final class Model {
    static final class Told {
        int salt;
        boolean sticky;
        boolean on;
        List<Integer> weights = new ArrayList<>();
        int share = 1000;
        int step = 0;
        int set = 0;
        int layer = -1;
        int from;
        int to;
        int needed = -1;
        int neededVariant;
        List<int[]> rules = new ArrayList<>();

        Told copy() {
            Told c = new Told();
            c.salt = salt;
            c.sticky = sticky;
            c.on = on;
            c.weights = new ArrayList<>(weights);
            c.share = share;
            c.step = step;
            c.set = set;
            c.layer = layer;
            c.from = from;
            c.to = to;
            c.needed = needed;
            c.neededVariant = neededVariant;
            c.rules = new ArrayList<>(rules);
            return c;
        }
    }

    List<Told> told = new ArrayList<>();
    int clock = 0;
    int holdout = 0;
    Map<List<Integer>, Integer> arms = new LinkedHashMap<>();
    Map<List<Integer>, List<Integer>> worths = new LinkedHashMap<>();

    Model copy() {
        Model c = new Model();
        for (Told t : told) {
            c.told.add(t.copy());
        }
        c.clock = clock;
        c.holdout = holdout;
        c.arms.putAll(arms);
        return c;
    }

    // What is asked of the arguments, in the order in which the document names the exceptions.

    private static void argument(boolean isFine) {
        if (!isFine) {
            throw new IllegalArgumentException();
        }
    }

    private static void state(boolean isFine) {
        if (!isFine) {
            throw new IllegalStateException();
        }
    }

    private static void index(boolean isFine) {
        if (!isFine) {
            throw new IndexOutOfBoundsException();
        }
    }

    private static boolean in(long value, long least, long most) {
        return least <= value && value <= most;
    }

    private Told one(int one) {
        index(in(one, 0, told.size() - 1));
        return told.get(one);
    }

    private Told one(int one, int variant) {
        Told t = one(one);
        index(in(variant, 0, t.weights.size() - 1));
        return t;
    }

    private void asker(int user, int first, int second) {
        argument(in(user, 0, 9999) && in(first, 0, 9) && in(second, 0, 9));
    }

    // ---- switches

    long add(int salt, int variants, boolean sticky) {
        argument(in(salt, 0, 498) && in(variants, 2, 4));
        state(told.size() < 8);
        Told t = new Told();
        t.salt = salt;
        t.sticky = sticky;
        for (int i = 0; i < variants; i++) {
            t.weights.add(i == 0 ? 1000 : 0);
        }
        told.add(t);
        return told.size() - 1;
    }

    long weigh(int one, int variant, int weight) {
        Told t = one(one, variant);
        argument(variant != 0 && in(weight, 0, 1000));
        int rest = 1000 - weight;
        for (int v = 1; v < t.weights.size(); v++) {
            rest -= v == variant ? 0 : t.weights.get(v);
        }
        argument(rest >= 0);
        t.weights.set(variant, weight);
        t.weights.set(0, rest);
        return rest;
    }

    long turn(int one, boolean on) {
        Told t = one(one);
        boolean was = t.on;
        t.on = on;
        return was ? 1 : 0;
    }

    long ramp(int one, int share, int step) {
        Told t = one(one);
        argument(in(share, 0, 1000) && in(step, 0, 1000));
        long was = share(one);
        t.share = share;
        t.step = step;
        t.set = clock;
        return was;
    }

    long place(int one, int layer, int from, int to) {
        Told t = one(one);
        argument(in(layer, -1, 2));
        if (layer != -1) {
            argument(from >= 0 && from <= to && to <= 1000);
            for (int i = 0; i < told.size(); i++) {
                Told other = told.get(i);
                for (int b = from; b < to; b++) {
                    state(i == one || other.layer != layer || b < other.from || b >= other.to);
                }
            }
        }
        int was = t.layer;
        t.layer = layer;
        t.from = from;
        t.to = to;
        return was;
    }

    long need(int one, int other, int variant) {
        Told t = one(one);
        if (other != -1) {
            one(other, variant);
            argument(other < one);
        }
        int was = t.needed;
        t.needed = other;
        t.neededVariant = variant;
        return was;
    }

    long rule(int one, int mark, int how, int n, int variant) {
        Told t = one(one);
        index(variant == -1 || in(variant, 0, t.weights.size() - 1));
        argument(in(mark, 0, 1) && in(how, 1, 3) && in(n, 0, 9));
        state(t.rules.size() < 5);
        t.rules.add(new int[] {mark, how, n, variant});
        return t.rules.size();
    }

    long unrule(int one, int rule) {
        Told t = one(one);
        index(in(rule, 0, t.rules.size() - 1));
        t.rules.remove(rule);
        return t.rules.size();
    }

    long hold(int held) {
        argument(in(held, 0, 1000));
        int was = holdout;
        holdout = held;
        return was;
    }

    long goOn(int ticks) {
        argument(in(ticks, 1, 100));
        return clock += ticks;
    }

    long weight(int one, int variant) {
        return one(one, variant).weights.get(variant);
    }

    long share(int one) {
        return shareIn(one, 0);
    }

    long left(int layer) {
        index(in(layer, 0, 2));
        int free = 0;
        for (int b = 0; b < 1000; b++) {
            boolean taken = false;
            for (Told t : told) {
                taken |= t.layer == layer && b >= t.from && b < t.to;
            }
            free += taken ? 0 : 1;
        }
        return free;
    }

    // ---- who gets what

    long bucket(int salt, int user) {
        argument(in(salt, 0, 999) && in(user, 0, 9999));
        long h = (salt * 7919L + user * 31L + 17) % 10007;
        long k = (h * h + salt + 3L * user) % 10007;
        return k % 1000;
    }

    /** The reason and the variant. */
    private int[] verdict(int one, int user, int first, int second) {
        Told t = told.get(one);
        if (!t.on) {
            return new int[] {0, 0};
        }
        if (t.needed >= 0 && verdict(t.needed, user, first, second)[1] != t.neededVariant) {
            return new int[] {1, 0};
        }
        Integer arm = arms.get(List.of(one, user));
        if (t.sticky && arm != null) {
            return new int[] {2, arm};
        }
        int holding = (int) holds(one, user, first, second);
        if (holding >= 0 && t.rules.get(holding)[3] >= 0) {
            return new int[] {3, t.rules.get(holding)[3]};
        }
        if (bucket(999, user) < holdout) {
            return new int[] {4, 0};
        }
        if (t.layer >= 0 && !in(bucket(500 + t.layer, user), t.from, t.to - 1)) {
            return new int[] {5, 0};
        }
        if (bucket(t.salt + 1, user) >= share(one)) {
            return new int[] {6, 0};
        }
        if (!t.rules.isEmpty() && holding < 0) {
            return new int[] {7, 0};
        }
        List<Integer> byBucket = new ArrayList<>();
        for (int v = 0; v < t.weights.size(); v++) {
            for (int i = 0; i < t.weights.get(v); i++) {
                byBucket.add(v);
            }
        }
        return new int[] {8, byBucket.get((int) bucket(t.salt, user))};
    }

    long gets(int one, int user, int first, int second) {
        one(one);
        asker(user, first, second);
        return verdict(one, user, first, second)[1];
    }

    long why(int one, int user, int first, int second) {
        one(one);
        asker(user, first, second);
        return verdict(one, user, first, second)[0];
    }

    long holds(int one, int user, int first, int second) {
        Told t = one(one);
        asker(user, first, second);
        for (int i = 0; i < t.rules.size(); i++) {
            int[] r = t.rules.get(i);
            int sign = Integer.signum((r[0] == 0 ? first : second) - r[2]);
            if (sign == r[1] - 2) {
                return i;
            }
        }
        return -1;
    }

    long ask(int one, int user, int first, int second) {
        one(one);
        asker(user, first, second);
        int[] verdict = verdict(one, user, first, second);
        if (verdict[0] == 8 && arms.size() < 100 && !arms.containsKey(List.of(one, user))) {
            arms.put(List.of(one, user), verdict[1]);
            worths.put(List.of(one, user), new ArrayList<>());
        }
        return verdict[1];
    }

    long act(int user, int worth) {
        argument(in(user, 0, 9999) && in(worth, 0, 100));
        int many = 0;
        for (Map.Entry<List<Integer>, List<Integer>> each : worths.entrySet()) {
            if (each.getKey().get(1) == user) {
                each.getValue().add(worth);
                many++;
            }
        }
        return many;
    }

    long arm(int one, int user) {
        one(one);
        argument(in(user, 0, 9999));
        return arms.getOrDefault(List.of(one, user), -1);
    }

    // ---- what came of it

    long told(int one, int variant, int what) {
        one(one, variant);
        argument(in(what, 0, 3));
        long answer = 0;
        for (Map.Entry<List<Integer>, Integer> each : arms.entrySet()) {
            if (each.getKey().get(0) == one && each.getValue() == variant) {
                List<Integer> acts = worths.get(each.getKey());
                long sum = acts.stream().mapToLong(Integer::longValue).sum();
                answer += what == 0 ? 1 : what == 1 ? (acts.isEmpty() ? 0 : 1) : what == 2 ? sum : sum * sum;
            }
        }
        return answer;
    }

    double mean(int one, int variant) {
        long count = told(one, variant, 0);
        return count == 0 ? 0 : (double) told(one, variant, 2) / (double) count;
    }

    private double spread(int one, int variant) {
        long count = told(one, variant, 0);
        return count == 0 ? 0 : (double) told(one, variant, 3) / (double) count - mean(one, variant) * mean(one, variant);
    }

    double lift(int one, int variant) {
        return mean(one, variant) - mean(one, 0);
    }

    double sure(int one, int variant) {
        long count = told(one, variant, 0);
        long countOfFirst = told(one, 0, 0);
        if (count == 0 || countOfFirst == 0) {
            return 0;
        }
        double divisor = spread(one, variant) / count + spread(one, 0) / countOfFirst;
        return divisor == 0 ? 0 : lift(one, variant) * lift(one, variant) / divisor;
    }

    private long armsOf(int one) {
        return arms.keySet().stream().filter(k -> k.get(0) == one).count();
    }

    long bad(int one) {
        Told t = one(one);
        long n = armsOf(one);
        long bad = 0;
        for (int v = 0; v < t.weights.size() && n > 0; v++) {
            long weight = t.weights.get(v);
            long off = told(one, v, 0) * 1000 - n * weight;
            bad += weight == 0 ? 0 : off * off / (n * weight * 10);
        }
        return bad;
    }

    long isTrusted(int one) {
        Told t = one(one);
        for (int v = 0; v < t.weights.size(); v++) {
            if (t.weights.get(v) == 0 && told(one, v, 0) > 0) {
                return 0;
            }
        }
        long above = t.weights.stream().filter(w -> w > 0).count();
        long most = above == 1 ? Long.MAX_VALUE : above == 2 ? 384 : above == 3 ? 599 : 781;
        return bad(one) <= most ? 1 : 0;
    }

    long best(int one) {
        Told t = one(one);
        int best = -1;
        for (int v = t.weights.size() - 1; v >= 0; v--) {
            if (told(one, v, 0) > 0 && (best < 0 || mean(one, v) >= mean(one, best))) {
                best = v;
            }
        }
        return best;
    }

    // ---- what would be

    private int[] counted(int one, int user) {
        return verdict(one, user, user % 10, user / 10 % 10);
    }

    long reach(int one, int variant, int many) {
        one(one, variant);
        argument(in(many, 1, 200));
        int reached = 0;
        for (int user = 0; user < many; user++) {
            reached += counted(one, user)[1] == variant ? 1 : 0;
        }
        return reached;
    }

    long both(int one, int other, int many) {
        one(one);
        one(other);
        argument(in(many, 1, 200));
        int split = 0;
        for (int user = 0; user < many; user++) {
            split += counted(one, user)[0] == 8 && counted(other, user)[0] == 8 ? 1 : 0;
        }
        return split;
    }

    long wouldChange(int one, int share, int many) {
        one(one);
        argument(in(share, 0, 1000) && in(many, 1, 200));
        Model other = copy();
        other.ramp(one, share, 0);
        int changed = 0;
        for (int user = 0; user < many; user++) {
            changed += counted(one, user)[1] != other.counted(one, user)[1] ? 1 : 0;
        }
        return changed;
    }

    long wouldTurn(int one, int many) {
        one(one);
        argument(in(many, 1, 200));
        Model other = copy();
        other.told.get(one).on = !told.get(one).on;
        int changed = 0;
        for (int user = 0; user < many; user++) {
            boolean isOther = false;
            for (int i = 0; i < told.size(); i++) {
                isOther |= counted(i, user)[1] != other.counted(i, user)[1];
            }
            changed += isOther ? 1 : 0;
        }
        return changed;
    }

    long shareIn(int one, int ticks) {
        Told t = one(one);
        argument(in(ticks, 0, 1000));
        return Math.min(1000, t.share + (long) t.step * (clock + ticks - t.set));
    }

    long digest() {
        List<Long> all = new ArrayList<>();
        all.add((long) told.size());
        all.add((long) arms.size());
        for (int layer = 0; layer < 3; layer++) {
            all.add(left(layer));
        }
        for (int one = 0; one < told.size(); one++) {
            all.addAll(List.of(share(one), bad(one), isTrusted(one), best(one)));
            for (int v = 0; v < told.get(one).weights.size(); v++) {
                all.addAll(List.of(weight(one, v), told(one, v, 0), told(one, v, 1), told(one, v, 2), told(one, v, 3),
                    reach(one, v, 20)));
            }
        }
        for (int user = 0; user < 10; user++) {
            for (int one = 0; one < told.size(); one++) {
                all.addAll(List.of(gets(one, user, user, 9 - user), why(one, user, user, 9 - user), arm(one, user)));
            }
        }
        long d = 2687;
        for (long v : all) {
            d = d * 31 + v;
        }
        return d;
    }
}
