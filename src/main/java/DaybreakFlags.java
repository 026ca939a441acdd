/** An engine of switches and experiments. The words in capitals are those of the document. */
public final class DaybreakFlags {

    private static final int NONE = -1;

    private static final int MOST_SWITCHES = 8;
    private static final int MOST_VARIANTS = 4;
    private static final int MOST_RULES = 5;
    private static final int MOST_ARMS = 100;
    private static final int MOST_TICKS_AHEAD = 1000;
    private static final int MOST_TICKS_AT_ONCE = 100;
    private static final int MOST_COUNTED = 200;
    private static final int MOST_WORTH = 100;
    private static final int LAYERS = 3;
    private static final int LAST_USER = 9999;
    private static final int LAST_MARK = 9;

    /** All BUCKETS, all WEIGHT, and as far as a RAMP goes. */
    private static final int WHOLE = 1000;

    // A SWITCH takes its SALT and the one behind it; LAYERS and HOLDOUT have theirs above all of these.
    private static final int LAST_SALT = 999;
    private static final int LAST_SALT_OF_SWITCH = 498;
    private static final int SALT_OF_LAYERS = 500;
    private static final int SALT_OF_HOLDOUT = 999;
    private static final int PRIME = 10007;

    private static final int LESS = 1;
    private static final int EQUAL = 2;
    private static final int GREATER = 3;

    private static final int IS_OFF = 0;
    private static final int LACKS_NEED = 1;
    private static final int KEEPS_ARM = 2;
    private static final int RULED = 3;
    private static final int IS_HELD = 4;
    private static final int NOT_IN_LAYER = 5;
    private static final int NOT_IN_RAMP = 6;
    private static final int NO_RULE_HOLDS = 7;
    private static final int SPLIT = 8;

    private static final int TELL_COUNT = 0;
    private static final int TELL_ACTED = 1;
    private static final int TELL_SUM = 2;
    private static final int TELL_SQUARES = 3;

    private static final long DIGEST_START = 2687;
    private static final int DIGEST_REACH = 20;
    private static final int DIGEST_USERS = 10;

    private final Switch[] row = new Switch[MOST_SWITCHES];
    private final Asker asker = new Asker();
    private int switchCount;
    private int armCount;
    private int holdout;
    private int clock;

    public DaybreakFlags() {
    }

    // ---- switches

    public int add(int salt, int variants, boolean isSticky) throws IllegalArgumentException, IllegalStateException {
        if (isOutside(salt, 0, LAST_SALT_OF_SWITCH) || isOutside(variants, 2, MOST_VARIANTS)) {
            throw new IllegalArgumentException("salt or variants out of range");
        }
        int number = switchCount;
        if (number < 0 || number >= row.length) {
            throw new IllegalStateException("no more switches");
        }
        row[number] = new Switch(number, salt, variants, isSticky);
        switchCount = number + 1;
        return number;
    }

    public int weigh(int one, int variant, int weight) throws IndexOutOfBoundsException, IllegalArgumentException {
        Switch flag = known(one);
        checkVariant(flag, variant);
        int left = flag.weightOf(0) + flag.weightOf(variant) - weight;
        if (variant == 0 || isOutside(weight, 0, WHOLE) || left < 0) {
            throw new IllegalArgumentException("no weight that can be moved");
        }
        flag.setWeight(variant, weight);
        flag.setWeight(0, left);
        return left;
    }

    public boolean turn(int one, boolean isOn) throws IndexOutOfBoundsException {
        Switch flag = known(one);
        boolean wasOn = flag.isOn;
        flag.isOn = isOn;
        return wasOn;
    }

    public int ramp(int one, int share, int step) throws IndexOutOfBoundsException, IllegalArgumentException {
        Switch flag = known(one);
        if (isOutside(share, 0, WHOLE) || isOutside(step, 0, WHOLE)) {
            throw new IllegalArgumentException("share or step out of range");
        }
        int before = flag.farAt(clock);
        flag.setRamp(share, step, clock);
        return before;
    }

    public int place(int one, int layer, int from, int to) throws IndexOutOfBoundsException, IllegalArgumentException, IllegalStateException {
        Switch flag = known(one);
        if (layer != NONE) {
            checkRange(layer, from, to);
            if (isTaken(one, layer, from, to)) {
                throw new IllegalStateException("another switch has some of the range");
            }
        }
        int before = flag.layer;
        flag.layer = layer;
        flag.from = layer == NONE ? 0 : from;
        flag.to = layer == NONE ? 0 : to;
        return before;
    }

    public int need(int one, int other, int variant) throws IndexOutOfBoundsException, IllegalArgumentException {
        Switch flag = known(one);
        if (other != NONE) {
            checkVariant(known(other), variant);
            if (other >= one) {
                throw new IllegalArgumentException("only a switch with a smaller number can be needed");
            }
        }
        int before = flag.needed;
        flag.needed = other;
        flag.neededVariant = variant;
        return before;
    }

    public int rule(int one, int mark, int how, int n, int variant) throws IndexOutOfBoundsException, IllegalArgumentException, IllegalStateException {
        Switch flag = known(one);
        if (variant != NONE) {
            checkVariant(flag, variant);
        }
        if (isOutside(mark, 0, 1) || isOutside(how, LESS, GREATER) || isOutside(n, 0, LAST_MARK)) {
            throw new IllegalArgumentException("mark, how or n out of range");
        }
        if (flag.ruleCount >= MOST_RULES) {
            throw new IllegalStateException("no more rules");
        }
        flag.addRule(new Rule(mark, how, n, variant));
        return flag.ruleCount;
    }

    public int unrule(int one, int rule) throws IndexOutOfBoundsException {
        Switch flag = known(one);
        if (isOutside(rule, 0, flag.ruleCount - 1)) {
            throw new IndexOutOfBoundsException("no such rule");
        }
        flag.removeRule(rule);
        return flag.ruleCount;
    }

    public int hold(int held) throws IllegalArgumentException {
        if (isOutside(held, 0, WHOLE)) {
            throw new IllegalArgumentException("held out of range");
        }
        int before = holdout;
        holdout = held;
        return before;
    }

    public int goOn(int ticks) throws IllegalArgumentException {
        if (isOutside(ticks, 1, MOST_TICKS_AT_ONCE)) {
            throw new IllegalArgumentException("ticks out of range");
        }
        clock += ticks;
        return clock;
    }

    public int switches() {
        return switchCount;
    }

    public int weight(int one, int variant) throws IndexOutOfBoundsException {
        Switch flag = known(one);
        checkVariant(flag, variant);
        return flag.weightOf(variant);
    }

    public int share(int one) throws IndexOutOfBoundsException {
        return known(one).farAt(clock);
    }

    public int left(int layer) throws IndexOutOfBoundsException {
        if (isOutside(layer, 0, LAYERS - 1)) {
            throw new IndexOutOfBoundsException("no such layer");
        }
        int free = WHOLE;
        for (Switch each : row) {
            if (each != null && each.layer == layer) {
                free -= each.to - each.from;
            }
        }
        return free;
    }

    // ---- who gets what

    public int bucket(int salt, int user) throws IllegalArgumentException {
        if (isOutside(salt, 0, LAST_SALT) || isOutside(user, 0, LAST_USER)) {
            throw new IllegalArgumentException("salt or user out of range");
        }
        return bucketOf(salt, user);
    }

    public int gets(int one, int user, int first, int second) throws IndexOutOfBoundsException, IllegalArgumentException {
        Switch flag = known(one);
        checkAsker(user, first, second);
        asker.become(user, first, second);
        return variantOf(flag);
    }

    public int why(int one, int user, int first, int second) throws IndexOutOfBoundsException, IllegalArgumentException {
        Switch flag = known(one);
        checkAsker(user, first, second);
        asker.become(user, first, second);
        return reasonOf(flag);
    }

    public int holds(int one, int user, int first, int second) throws IndexOutOfBoundsException, IllegalArgumentException {
        Switch flag = known(one);
        checkAsker(user, first, second);
        return flag.firstRuleFor(first, second);
    }

    public int ask(int one, int user, int first, int second) throws IndexOutOfBoundsException, IllegalArgumentException {
        Switch flag = known(one);
        checkAsker(user, first, second);
        asker.become(user, first, second);
        int reason = reasonOf(flag);
        int shown = variantBy(flag, reason);
        if (reason == SPLIT && armCount < MOST_ARMS && flag.armOf(user) == null) {
            flag.addArm(user, shown);
            armCount++;
        }
        return shown;
    }

    public int act(int user, int worth) throws IllegalArgumentException {
        if (isOutside(user, 0, LAST_USER) || isOutside(worth, 0, MOST_WORTH)) {
            throw new IllegalArgumentException("user or worth out of range");
        }
        int found = 0;
        for (Switch each : row) {
            if (each != null && each.addWorth(user, worth)) {
                found++;
            }
        }
        return found;
    }

    public int arm(int one, int user) throws IndexOutOfBoundsException, IllegalArgumentException {
        Switch flag = known(one);
        if (isOutside(user, 0, LAST_USER)) {
            throw new IllegalArgumentException("user out of range");
        }
        Arm found = flag.armOf(user);
        return found == null ? NONE : found.variant;
    }

    public int arms() {
        return armCount;
    }

    // ---- what came of it

    public int told(int one, int variant, int what) throws IndexOutOfBoundsException, IllegalArgumentException {
        Switch flag = known(one);
        checkVariant(flag, variant);
        switch (what) {
            case TELL_COUNT:
                return flag.tally.countOf(variant);
            case TELL_ACTED:
                return flag.tally.actedOf(variant);
            case TELL_SUM:
                return flag.tally.sumOf(variant);
            case TELL_SQUARES:
                return (int) flag.tally.squaresOf(variant);
            default:
                throw new IllegalArgumentException("what out of range");
        }
    }

    public double mean(int one, int variant) throws IndexOutOfBoundsException {
        Switch flag = known(one);
        checkVariant(flag, variant);
        return flag.tally.meanOf(variant);
    }

    public double lift(int one, int variant) throws IndexOutOfBoundsException {
        Switch flag = known(one);
        checkVariant(flag, variant);
        return flag.tally.liftOf(variant);
    }

    public double sure(int one, int variant) throws IndexOutOfBoundsException {
        Switch flag = known(one);
        checkVariant(flag, variant);
        return flag.tally.surenessOf(variant);
    }

    public int bad(int one) throws IndexOutOfBoundsException {
        return known(one).badness();
    }

    public boolean isTrusted(int one) throws IndexOutOfBoundsException {
        return known(one).canBeTrusted();
    }

    public int best(int one) throws IndexOutOfBoundsException {
        return known(one).tally.bestVariant();
    }

    // ---- what would be (nothing is changed): USERS 0 to many - 1, each with the MARKS USER % 10 and USER / 10 % 10

    public int reach(int one, int variant, int many) throws IndexOutOfBoundsException, IllegalArgumentException {
        Switch flag = known(one);
        checkVariant(flag, variant);
        checkMany(many);
        int reached = 0;
        for (int user = 0; user < many; user++) {
            asker.becomeCounted(user);
            if (variantOf(flag) == variant) {
                reached++;
            }
        }
        return reached;
    }

    public int both(int one, int other, int many) throws IndexOutOfBoundsException, IllegalArgumentException {
        Switch flag = known(one);
        Switch second = known(other);
        checkMany(many);
        int split = 0;
        for (int user = 0; user < many; user++) {
            asker.becomeCounted(user);
            if (reasonOf(flag) == SPLIT && reasonOf(second) == SPLIT) {
                split++;
            }
        }
        return split;
    }

    public int wouldChange(int one, int share, int many) throws IndexOutOfBoundsException, IllegalArgumentException {
        Switch flag = known(one);
        if (isOutside(share, 0, WHOLE)) {
            throw new IllegalArgumentException("share out of range");
        }
        checkMany(many);
        int changed = 0;
        for (int user = 0; user < many; user++) {
            asker.becomeCounted(user);
            int now = variantOf(flag);
            asker.supposeRamp(one, share);
            if (variantOf(flag) != now) {
                changed++;
            }
        }
        return changed;
    }

    public int wouldTurn(int one, int many) throws IndexOutOfBoundsException, IllegalArgumentException {
        known(one);
        checkMany(many);
        int changed = 0;
        for (int user = 0; user < many; user++) {
            if (changesByTurning(one, user)) {
                changed++;
            }
        }
        return changed;
    }

    public int shareIn(int one, int ticks) throws IndexOutOfBoundsException, IllegalArgumentException {
        Switch flag = known(one);
        if (isOutside(ticks, 0, MOST_TICKS_AHEAD)) {
            throw new IllegalArgumentException("ticks out of range");
        }
        return flag.farAt(clock + ticks);
    }

    public long digest() {
        long d = withNext(DIGEST_START, switches());
        d = withNext(d, arms());
        for (int layer = 0; layer < LAYERS; layer++) {
            d = withNext(d, left(layer));
        }
        for (int one = 0; one < switchCount; one++) {
            d = withSwitch(d, one);
        }
        for (int user = 0; user < DIGEST_USERS; user++) {
            for (int one = 0; one < switchCount; one++) {
                d = withNext(d, gets(one, user, user, LAST_MARK - user));
                d = withNext(d, why(one, user, user, LAST_MARK - user));
                d = withNext(d, arm(one, user));
            }
        }
        return d;
    }

    private long withSwitch(long start, int one) {
        long d = withNext(start, share(one));
        d = withNext(d, bad(one));
        d = withNext(d, isTrusted(one) ? 1 : 0);
        d = withNext(d, best(one));
        int variants = known(one).variantCount;
        for (int variant = 0; variant < variants; variant++) {
            d = withNext(d, weight(one, variant));
            for (int what = TELL_COUNT; what <= TELL_SQUARES; what++) {
                d = withNext(d, told(one, variant, what));
            }
            d = withNext(d, reach(one, variant, DIGEST_REACH));
        }
        return d;
    }

    private static long withNext(long d, long v) {
        return d * 31 + v;
    }

    private static boolean isOutside(int value, int least, int most) {
        return value < least || value > most;
    }

    private static int bucketOf(int salt, int user) {
        int h = (salt * 7919 + user * 31 + 17) % PRIME;
        int k = (h * h + salt + 3 * user) % PRIME;
        return k % WHOLE;
    }

    private Switch switchAt(int one) {
        return one < 0 || one >= row.length ? null : row[one];
    }

    private Switch known(int one) {
        Switch found = switchAt(one);
        if (found == null) {
            throw new IndexOutOfBoundsException("no such switch");
        }
        return found;
    }

    private static void checkVariant(Switch flag, int variant) {
        if (isOutside(variant, 0, flag.variantCount - 1)) {
            throw new IndexOutOfBoundsException("no such variant");
        }
    }

    private static void checkAsker(int user, int first, int second) {
        if (isOutside(user, 0, LAST_USER) || isOutside(first, 0, LAST_MARK) || isOutside(second, 0, LAST_MARK)) {
            throw new IllegalArgumentException("user or mark out of range");
        }
    }

    private static void checkMany(int many) {
        if (isOutside(many, 1, MOST_COUNTED)) {
            throw new IllegalArgumentException("many out of range");
        }
    }

    private static void checkRange(int layer, int from, int to) {
        if (isOutside(layer, 0, LAYERS - 1) || from < 0 || from > to || to > WHOLE) {
            throw new IllegalArgumentException("layer or range out of range");
        }
    }

    private boolean isTaken(int one, int layer, int from, int to) {
        for (Switch each : row) {
            if (each != null && each.number != one && each.layer == layer && each.sharesRange(from, to)) {
                return true;
            }
        }
        return false;
    }

    private int variantOf(Switch flag) {
        return variantBy(flag, reasonOf(flag));
    }

    private int variantBy(Switch flag, int reason) {
        switch (reason) {
            case KEEPS_ARM:
                Arm kept = flag.armOf(asker.user);
                return kept == null ? 0 : kept.variant;
            case RULED:
                Rule holding = flag.ruleAt(flag.firstRuleFor(asker.first, asker.second));
                return holding == null ? 0 : holding.variant;
            case SPLIT:
                return flag.splitBy(bucketOf(flag.salt, asker.user));
            default:
                return 0;
        }
    }

    private int reasonOf(Switch flag) {
        if (!asker.findsOn(flag)) {
            return IS_OFF;
        }
        if (!hasNeed(flag)) {
            return LACKS_NEED;
        }
        if (flag.isSticky && flag.armOf(asker.user) != null) {
            return KEEPS_ARM;
        }
        Rule holding = flag.ruleAt(flag.firstRuleFor(asker.first, asker.second));
        if (holding != null && holding.variant != NONE) {
            return RULED;
        }
        if (bucketOf(SALT_OF_HOLDOUT, asker.user) < holdout) {
            return IS_HELD;
        }
        if (!isInLayer(flag)) {
            return NOT_IN_LAYER;
        }
        if (bucketOf(flag.salt + 1, asker.user) >= asker.findsFar(flag, clock)) {
            return NOT_IN_RAMP;
        }
        return holding == null && flag.ruleCount > 0 ? NO_RULE_HOLDS : SPLIT;
    }

    /** Comes back to reasonOf, but for a smaller number each time: at most MOST_SWITCHES times. */
    private boolean hasNeed(Switch flag) {
        Switch other = flag.needed < flag.number ? switchAt(flag.needed) : null;
        return other == null || variantOf(other) == flag.neededVariant;
    }

    private boolean isInLayer(Switch flag) {
        if (flag.layer == NONE) {
            return true;
        }
        int bucket = bucketOf(SALT_OF_LAYERS + flag.layer, asker.user);
        return bucket >= flag.from && bucket < flag.to;
    }

    private boolean changesByTurning(int one, int user) {
        // A SWITCH looks at smaller numbers alone, so those below the turned one stay as they are.
        for (int number = one; number < switchCount; number++) {
            Switch each = switchAt(number);
            if (each == null) {
                return false;
            }
            asker.becomeCounted(user);
            int now = variantOf(each);
            asker.supposeTurned(one);
            if (variantOf(each) != now) {
                return true;
            }
        }
        return false;
    }

    /**
     * Who asks, and what is supposed of the switches meanwhile. One object serves all questions, since
     * what a question makes is never given back.
     */
    private static final class Asker {
        private int user;
        private int first;
        private int second;
        private int turned = NONE;
        private int ramped = NONE;
        private int rampedTo;

        void become(int newUser, int mark0, int mark1) {
            user = newUser;
            first = mark0;
            second = mark1;
            turned = NONE;
            ramped = NONE;
        }

        void becomeCounted(int newUser) {
            become(newUser, newUser % 10, newUser / 10 % 10);
        }

        void supposeTurned(int one) {
            turned = one;
        }

        void supposeRamp(int one, int far) {
            ramped = one;
            rampedTo = far;
        }

        boolean findsOn(Switch flag) {
            return flag.isOn != (flag.number == turned);
        }

        int findsFar(Switch flag, int now) {
            return flag.number == ramped ? rampedTo : flag.farAt(now);
        }
    }

    private static final class Rule {
        private final int mark;
        private final int how;
        private final int n;
        private final int variant;

        Rule(int mark, int how, int n, int variant) {
            this.mark = mark;
            this.how = how;
            this.n = n;
            this.variant = variant;
        }

        boolean isMetBy(int first, int second) {
            int value = mark == 0 ? first : second;
            if (how == LESS) {
                return value < n;
            }
            return how == EQUAL ? value == n : value > n;
        }
    }

    private static final class Arm {
        private final int user;
        private final int variant;
        private final Arm older;
        private int sum;
        private boolean hasActed;

        Arm(int user, int variant, Arm older) {
            this.user = user;
            this.variant = variant;
            this.older = older;
        }
    }

    private static final class Switch {
        private final int number;
        private final int salt;
        private final int variantCount;
        private final boolean isSticky;
        private final int[] weights = new int[MOST_VARIANTS];
        private final Rule[] rules = new Rule[MOST_RULES];
        private final Tally tally = new Tally();
        private Arm newest;
        private int ruleCount;
        private boolean isOn;
        private int startShare = WHOLE;
        private int step;
        private int rampedAt;
        private int layer = NONE;
        private int from;
        private int to;
        private int needed = NONE;
        private int neededVariant;

        Switch(int number, int salt, int variantCount, boolean isSticky) {
            this.number = number;
            this.salt = salt;
            this.variantCount = variantCount;
            this.isSticky = isSticky;
            weights[0] = WHOLE;
        }

        int weightOf(int variant) {
            return variant < 0 || variant >= weights.length ? 0 : weights[variant];
        }

        void setWeight(int variant, int newWeight) {
            if (variant >= 0 && variant < weights.length) {
                weights[variant] = newWeight;
            }
        }

        int splitBy(int bucket) {
            int reached = 0;
            for (int variant = 0; variant < weights.length; variant++) {
                reached += weights[variant];
                if (bucket < reached) {
                    return variant;
                }
            }
            return 0;
        }

        void setRamp(int newShare, int newStep, int now) {
            startShare = newShare;
            step = newStep;
            rampedAt = now;
        }

        int farAt(int now) {
            long far = startShare + (long) step * (now - rampedAt);
            return far > WHOLE ? WHOLE : (int) far;
        }

        boolean sharesRange(int otherFrom, int otherTo) {
            return Math.max(from, otherFrom) < Math.min(to, otherTo);
        }

        Rule ruleAt(int index) {
            return index < 0 || index >= rules.length ? null : rules[index];
        }

        void addRule(Rule added) {
            if (ruleCount >= 0 && ruleCount < rules.length) {
                rules[ruleCount] = added;
                ruleCount++;
            }
        }

        void removeRule(int index) {
            for (int i = Math.max(index, 0); i < rules.length; i++) {
                rules[i] = ruleAt(i + 1);
            }
            ruleCount--;
        }

        int firstRuleFor(int first, int second) {
            for (int i = 0; i < rules.length; i++) {
                Rule each = rules[i];
                if (each != null && each.isMetBy(first, second)) {
                    return i;
                }
            }
            return NONE;
        }

        Arm armOf(int user) {
            for (Arm each = newest; each != null; each = each.older) {
                if (each.user == user) {
                    return each;
                }
            }
            return null;
        }

        void addArm(int user, int variant) {
            newest = new Arm(user, variant, newest);
            tally.countArm(variant);
        }

        boolean addWorth(int user, int worth) {
            Arm found = armOf(user);
            if (found == null) {
                return false;
            }
            tally.countAct(found.variant, found.sum, worth, !found.hasActed);
            found.sum += worth;
            found.hasActed = true;
            return true;
        }

        int badness() {
            long n = tally.total;
            long badness = 0;
            for (int variant = 0; variant < weights.length; variant++) {
                long due = n * weights[variant];
                if (due > 0) {
                    long off = tally.countOf(variant) * (long) WHOLE - due;
                    badness += off * off / (due * 10);
                }
            }
            return (int) badness;
        }

        boolean canBeTrusted() {
            int weighed = 0;
            for (int variant = 0; variant < weights.length; variant++) {
                if (weights[variant] > 0) {
                    weighed++;
                } else if (tally.countOf(variant) > 0) {
                    return false;
                }
            }
            return weighed < 2 || badness() <= mostBadness(weighed);
        }

        private static int mostBadness(int weighed) {
            if (weighed == 2) {
                return 384;
            }
            return weighed == 3 ? 599 : 781;
        }
    }

    /** What came of the ARMS of one SWITCH, for each of its VARIANTS. */
    private static final class Tally {
        private final int[] counts = new int[MOST_VARIANTS];
        private final int[] acted = new int[MOST_VARIANTS];
        private final int[] sums = new int[MOST_VARIANTS];
        private final long[] squares = new long[MOST_VARIANTS];
        private int total;

        private static boolean isKept(int variant) {
            return variant >= 0 && variant < MOST_VARIANTS;
        }

        void countArm(int variant) {
            if (isKept(variant)) {
                counts[variant]++;
                total++;
            }
        }

        void countAct(int variant, long sumBefore, int worth, boolean isFirst) {
            if (isKept(variant)) {
                long sumThen = sumBefore + worth;
                sums[variant] += worth;
                squares[variant] += sumThen * sumThen - sumBefore * sumBefore;
                acted[variant] += isFirst ? 1 : 0;
            }
        }

        int countOf(int variant) {
            return isKept(variant) ? counts[variant] : 0;
        }

        int actedOf(int variant) {
            return isKept(variant) ? acted[variant] : 0;
        }

        int sumOf(int variant) {
            return isKept(variant) ? sums[variant] : 0;
        }

        long squaresOf(int variant) {
            return isKept(variant) ? squares[variant] : 0;
        }

        double meanOf(int variant) {
            int count = countOf(variant);
            return count == 0 ? 0 : (double) sumOf(variant) / count;
        }

        double liftOf(int variant) {
            return meanOf(variant) - meanOf(0);
        }

        double surenessOf(int variant) {
            if (countOf(variant) == 0 || countOf(0) == 0) {
                return 0;
            }
            double divisor = spreadByCount(variant) + spreadByCount(0);
            double lifted = liftOf(variant);
            return divisor == 0 ? 0 : lifted * lifted / divisor;
        }

        private double spreadByCount(int variant) {
            int count = countOf(variant);
            if (count == 0) {
                return 0;
            }
            double average = meanOf(variant);
            double spread = (double) squaresOf(variant) / count - average * average;
            return spread / count;
        }

        int bestVariant() {
            int found = NONE;
            for (int variant = 0; variant < MOST_VARIANTS; variant++) {
                if (countOf(variant) > 0 && (found == NONE || meanOf(variant) > meanOf(found))) {
                    found = variant;
                }
            }
            return found;
        }
    }
}
