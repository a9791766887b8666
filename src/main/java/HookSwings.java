/**
 * A hook that swings: a trolley on its jib, a load below it on a rope, wind and the laws of a text.
 * Words in capitals are those of the document. No call makes an object: all rows are made with the object.
 */
public final class HookSwings {
    public static final int NONE = -1;

    private static final int NO = -2;
    private static final int FAR_OFF = -100000;

    private static final int PLACE_MOST = 600;
    private static final int ROPE_MOST = 24;
    private static final int TENTH_MOST = 9999;
    private static final int NEAR_MOST = 99;
    private static final int RUN_MOST = 60;
    private static final int STORM_MOST = 40;
    private static final int AHEAD_MOST = 200;
    private static final int WAIT_MOST = 60;
    private static final int WIND_MOST = 9;

    private static final int KEPT_MOST = 60;
    private static final int KEPT_PARTS = 6;
    private static final int KEPT_COMMAND = 5;
    private static final int AGO_MOST = 9;
    private static final int STEPS_MOST = 30;
    private static final int STEP_PARTS = 13;
    private static final int ORDERS_MOST = 8;
    private static final int ORDER_PARTS = 5;
    private static final int TEXTS_MOST = 4;
    private static final int SAID_MOST = 8;
    private static final int BARS_MOST = 4;
    private static final int BAR_PARTS = 4;
    private static final int WRITTEN_MOST = 20;
    private static final int TAPE_MOST = 300;
    private static final int CLAUSES_MOST = 24;
    private static final int OPEN_MOST = 8;
    private static final int SEARCH_MOST = 7;
    private static final int YARD_MOST = 60;

    // Of an ORDER.
    private static final int WEIGHT = 0;
    private static final int YARD = 1;
    private static final int DUE = 2;
    private static final int MEN = 3;
    private static final int JIB = 4;

    // The laws, by the number of their words.
    private static final int PACES = 0;
    private static final int SWINGS = 1;
    private static final int HAND = 2;
    private static final int HOLDS = 3;
    private static final int LASTS = 4;
    private static final int LAWS = 5;

    private final World now;
    private final World held;
    private final Text[] texts;
    private final Text lawless;
    private final Laws laws;
    private final Hook trial;
    private final Hook branch;
    private final Search search;
    private final Plan plan;
    private final Reader reader;
    private final int[] tape;
    private int tapeLength;
    private boolean hasRead;

    public HookSwings() {
        now = new World();
        held = new World();
        texts = new Text[TEXTS_MOST];
        for (int i = 0; i < TEXTS_MOST; i++) {
            texts[i] = new Text();
        }
        lawless = new Text();
        trial = new Hook(Kept.SHORT);
        branch = new Hook(Kept.SHORT);
        laws = new Laws(lawless, trial.kept);
        search = new Search();
        plan = new Plan();
        reader = new Reader(lawless);
        tape = new int[TAPE_MOST];
    }

    // ---- what is told

    public int order(int weight, int yard, int due, int men, int jib) {
        boolean fits = within(weight, 1, 99) && within(yard, 0, YARD_MOST) && within(due, 0, 999)
                && within(men, 0, 9) && within(jib, 0, 1);
        if (!fits || now.orderCount >= ORDERS_MOST) {
            return NONE;
        }
        int at = now.orderCount * ORDER_PARTS;
        now.orders[at + WEIGHT] = weight;
        now.orders[at + YARD] = yard;
        now.orders[at + DUE] = due;
        now.orders[at + MEN] = men;
        now.orders[at + JIB] = jib;
        now.orderCount++;
        return now.orderCount - 1;
    }

    public boolean near(int inches) {
        if (!within(inches, 0, NEAR_MOST)) {
            return false;
        }
        now.near = inches;
        return true;
    }

    public int feed(int a, int b, int c, int d, int e) {
        if (tapeLength + 20 > TAPE_MOST) {
            return NONE;
        }
        feedFour(a);
        feedFour(b);
        feedFour(c);
        feedFour(d);
        feedFour(e);
        return tapeLength;
    }

    private void feedFour(int four) {
        for (int shift = 24; shift >= 0; shift -= 8) {
            if (tapeLength < TAPE_MOST) {
                tape[tapeLength] = (four >> shift) & 255;
                tapeLength++;
            }
        }
    }

    public int end(int n) {
        if (!within(n, 0, tapeLength)) {
            return NONE;
        }
        tapeLength = n;
        return n;
    }

    public int text() {
        if (now.textCount >= TEXTS_MOST) {
            return NONE;
        }
        // The slot behind the last text is free, also for THE IMAGE: its texts are the first of these.
        boolean sound = reader.read(tape, tapeLength, texts[now.textCount]);
        hasRead = true;
        tapeLength = 0;
        if (!sound) {
            return NONE;
        }
        now.textCount++;
        return now.textCount - 1;
    }

    public int fault(int what) {
        if (!hasRead) {
            return NONE;
        }
        if (what == 0) {
            return reader.fault;
        }
        return what == 1 ? reader.place : NONE;
    }

    public boolean by(int text) {
        if (!within(text, NONE, now.textCount - 1)) {
            return false;
        }
        now.ruling = text;
        return true;
    }

    // ---- steps

    public int move(int command) {
        if (!within(command, -1, 1) || !fitsAhead(1)) {
            return NONE;
        }
        now.keepStep();
        now.hook.tenthBy(command, ruled());
        return now.hook.place;
    }

    public int run(int n) {
        if (!within(n, 1, RUN_MOST) || !fitsAhead(n)) {
            return NONE;
        }
        runTenths(n);
        return now.hook.place;
    }

    /** Runs n TENTHS, or as many of them as can be: how many. */
    private int runTenths(int n) {
        Laws ruling = ruled();
        int can = Math.min(n, TENTH_MOST - now.hook.tenth);
        for (int i = 0; i < can; i++) {
            now.keepStep();
            now.hook.tenthBy(ruling.command(now.hook), ruling);
        }
        return can;
    }

    private boolean fitsAhead(int n) {
        return now.hook.tenth + n <= TENTH_MOST;
    }

    public boolean hoist(int rope) {
        if (!within(rope, 1, ROPE_MOST) || rope == now.hook.rope) {
            return false;
        }
        now.keepStep();
        now.hook.rope = rope;
        return true;
    }

    public boolean aim(int goal) {
        if (!within(goal, 0, PLACE_MOST) || goal == now.hook.goal) {
            return false;
        }
        now.keepStep();
        now.hook.goal = goal;
        return true;
    }

    public boolean hook(int order) {
        if (!isOrder(order) || now.hook.hooked != NONE || now.hook.hasLanded(order)) {
            return false;
        }
        now.keepStep();
        now.hook.hooked = order;
        now.hook.weight = now.told(order, WEIGHT);
        now.hook.goal = now.told(order, YARD) * 10;
        return true;
    }

    public int land() {
        int order = now.hook.hooked;
        if (order == NONE || !now.hook.hangsStill(now.near)) {
            return NONE;
        }
        now.keepStep();
        now.writeDown(order);
        return order;
    }

    public int played(int text) {
        if (!isText(text)) {
            return NO;
        }
        Text script = texts[text];
        for (int i = 0; i < script.clauses && i < CLAUSES_MOST; i++) {
            if (!playClause(script, i)) {
                return i;
            }
        }
        return NONE;
    }

    private boolean playClause(Text script, int i) {
        int one = script.arg(i, 0);
        switch (script.kind(i)) {
            case Tokens.ORDER:
                return order(one, script.arg(i, 1), script.arg(i, 2), script.arg(i, 3), script.arg(i, 4)) != NONE;
            case Tokens.MOVE:
                return move(one) != NONE;
            case Tokens.RUN:
                return runTenths(one) == one;
            case Tokens.ROPE:
                return hoist(one);
            case Tokens.AIM:
                return aim(one);
            case Tokens.HOOK:
                return hook(one);
            case Tokens.LAND:
                return land() != NONE;
            default:
                return true;
        }
    }

    public int storm(int seed, int n) {
        if (!within(seed, 0, 9999) || !within(n, 1, STORM_MOST) || !fitsAhead(n)) {
            return NONE;
        }
        now.keepStep();
        Hook hook = now.hook;
        Laws ruling = ruled();
        hook.x = seed * 3 + 59;
        for (int i = 0; i < n; i++) {
            hook.wind = hook.drawn();
            hook.tenthBy(hook.x % 3 - 1, ruling);
            hook.renewX();
        }
        return hook.place;
    }

    public int undo() {
        return now.takeBack() ? now.stepCount : NONE;
    }

    // ---- what is

    public int jib(int what) {
        Hook hook = now.hook;
        switch (what) {
            case 0: return hook.place;
            case 1: return hook.pace;
            case 2: return hook.load;
            case 3: return hook.speed;
            case 4: return hook.away();
            case 5: return hook.rope;
            case 6: return hook.weight;
            case 7: return hook.wind;
            case 8: return hook.goal;
            case 9: return hook.tenth;
            case 10: return hook.hangsStill(now.near) ? 1 : 0;
            case 11: return hook.hooked;
            case 12: return ruled().command(hook);
            default: return FAR_OFF;
        }
    }

    public int ofOrder(int order, int what) {
        if (!isOrder(order) || !within(what, 0, 7)) {
            return NONE;
        }
        switch (what) {
            case 5: return now.hook.hasLanded(order) ? 1 : 0;
            case 6: return lasting(order);
            case 7: return ruled().holds(now.told(order, YARD));
            default: return now.told(order, what);
        }
    }

    private int lasting(int order) {
        return ruled().lasts(now.hook.rope, now.told(order, WEIGHT), now.told(order, YARD));
    }

    public int ago(int k, int what) {
        if (!within(k, 1, now.hook.keptCount()) || !within(what, 0, KEPT_COMMAND)) {
            return FAR_OFF;
        }
        return now.hook.kept.part(now.hook.tenth - k, what);
    }

    // ---- what would be

    public int foretold(int n, boolean run, int what) {
        if (!within(n, 1, AHEAD_MOST) || !within(what, 0, 3)) {
            return FAR_OFF;
        }
        Laws ruling = ruled();
        trial.startAs(now.hook);
        int farthest = 0;
        int still = NONE;
        for (int k = 1; k <= n; k++) {
            trial.tenthAhead(run, ruling);
            farthest = Math.max(farthest, trial.swung());
            if (still == NONE && trial.hangsStill(now.near)) {
                still = k;
            }
        }
        switch (what) {
            case 0: return trial.place;
            case 1: return trial.load;
            case 2: return farthest;
            default: return still;
        }
    }

    public int soonest(int i) {
        trial.startAs(now.hook);
        search.begin(trial, ruled(), now.near, false);
        return i == NONE && search.found() ? search.length : search.commandAt(i);
    }

    public int fewest(int i) {
        trial.startAs(now.hook);
        search.begin(trial, ruled(), now.near, true);
        return i == NONE && search.found() ? search.given : search.commandAt(i);
    }

    public int toAndFro(int n) {
        if (!within(n, 2, AHEAD_MOST)) {
            return NONE;
        }
        Laws ruling = ruled();
        trial.startAs(now.hook);
        int first = NONE;
        for (int k = 1; k <= n; k++) {
            boolean below = trial.away() <= 0;
            trial.tenthBy(0, ruling);
            if (below && trial.away() > 0) {
                if (first != NONE) {
                    return k - first;
                }
                first = k;
            }
        }
        return NONE;
    }

    public long calm(int n, int b, boolean low) {
        if (!within(n, 1, 9) || !within(b, 0, WIND_MOST)) {
            return NONE;
        }
        long upper = 1;
        long lower = 1;
        for (int i = 0; i < n; i++) {
            upper *= b + 1;
            lower *= 10;
        }
        return inLowestTerms(upper, lower, low);
    }

    public int dies(int text, int n) {
        if (!isText(text) || !isHandSpan(n)) {
            return NO;
        }
        Laws handed = ruledWithHand(text);
        trial.startAs(now.hook);
        int first = trial.farthest(n / 2, handed);
        int later = trial.farthest(n / 2, handed);
        return Integer.compare(later, first);
    }

    public int calmest(int n) {
        if (!isHandSpan(n)) {
            return NONE;
        }
        int best = NONE;
        int least = 0;
        for (int t = 0; t < now.textCount; t++) {
            trial.startAs(now.hook);
            int farthest = trial.farthest(n, ruledWithHand(t));
            if (best == NONE || farthest < least) {
                best = t;
                least = farthest;
            }
        }
        return best;
    }

    private static boolean isHandSpan(int n) {
        return within(n, 2, AHEAD_MOST) && n % 2 == 0;
    }

    public int whoseHand() {
        int bits = 0;
        for (int t = 0; t < now.textCount; t++) {
            if (gaveAll(ruledWithHand(t))) {
                bits |= 1 << t;
            }
        }
        return bits;
    }

    private boolean gaveAll(Laws handed) {
        Hook hook = now.hook;
        for (int k = 1; k <= hook.keptCount(); k++) {
            int tenth = hook.tenth - k;
            if (handed.commandThen(hook, tenth) != hook.kept.part(tenth, KEPT_COMMAND)) {
                return false;
            }
        }
        return true;
    }

    public int dayEnds(int n, int bound) {
        if (!within(n, 1, AHEAD_MOST) || !within(bound, 0, 9999)) {
            return NONE;
        }
        Laws ruling = ruled();
        for (int wind = 1; wind <= WIND_MOST; wind++) {
            trial.startAs(now.hook);
            trial.wind = wind;
            trial.windStands = true;
            for (int k = 0; k < n; k++) {
                trial.tenthBy(0, ruling);
                if (trial.swung() > bound) {
                    return wind;
                }
            }
        }
        return NONE;
    }

    public int saves(int one, int other, int orders) {
        if (!isText(one) || !isText(other) || one == other || !isSet(orders)) {
            return FAR_OFF;
        }
        return tenthsOfHand(other, orders) - tenthsOfHand(one, orders);
    }

    private int tenthsOfHand(int text, int orders) {
        Laws handed = ruledWithHand(text);
        int all = 0;
        for (int o = 0; o < now.orderCount; o++) {
            if ((orders >> o & 1) == 1) {
                trial.rest(now.hook.rope, now.told(o, WEIGHT), now.told(o, YARD) * 10);
                int still = trial.stillIn(AHEAD_MOST, now.near, handed);
                all += still == NONE ? AHEAD_MOST : still;
            }
        }
        return all;
    }

    public int whenToGo() {
        Laws ruling = ruled();
        int best = NONE;
        int soonestEnd = AHEAD_MOST + 1;
        trial.startAs(now.hook);
        for (int wait = 0; wait <= WAIT_MOST; wait++) {
            branch.startAs(trial);
            int still = branch.stillIn(soonestEnd - 1 - wait, now.near, ruling);
            if (still != NONE) {
                best = wait;
                soonestEnd = wait + still;
            }
            trial.tenthBy(0, ruling);
        }
        return best;
    }

    public int whichRope() {
        Laws ruling = ruled();
        int best = NONE;
        int soonestEnd = AHEAD_MOST + 1;
        for (int rope = 1; rope <= ROPE_MOST; rope++) {
            trial.startAs(now.hook);
            trial.rope = rope;
            int still = trial.stillIn(soonestEnd - 1, now.near, ruling);
            if (still != NONE) {
                best = rope;
                soonestEnd = still;
            }
        }
        return best;
    }

    public int bar(int from, int to, int begin, int end) {
        if (from == NONE) {
            now.barCount = 0;
            return 0;
        }
        boolean fits = within(to, 0, PLACE_MOST) && within(from, 0, to)
                && within(end, 0, TENTH_MOST) && within(begin, 0, end);
        if (!fits || now.barCount >= BARS_MOST) {
            return NO;
        }
        int at = now.barCount * BAR_PARTS;
        now.bars[at] = from;
        now.bars[at + 1] = to;
        now.bars[at + 2] = begin;
        now.bars[at + 3] = end;
        now.barCount++;
        return now.barCount;
    }

    public int barred(int n, boolean run) {
        if (!within(n, 1, AHEAD_MOST)) {
            return NONE;
        }
        Laws ruling = ruled();
        trial.startAs(now.hook);
        for (int k = 1; k <= n; k++) {
            trial.tenthAhead(run, ruling);
            if (now.bans(trial.place, trial.tenth)) {
                return k;
            }
        }
        return NONE;
    }

    public int howFar(int weight) {
        if (!within(weight, 1, 99)) {
            return NONE;
        }
        Laws ruling = ruled();
        int far = NONE;
        for (int yard = 0; yard <= YARD_MOST && ruling.holds(yard) >= weight; yard++) {
            far = yard;
        }
        return far;
    }

    public int over() {
        Laws ruling = ruled();
        int bits = 0;
        for (int o = 0; o < now.orderCount; o++) {
            if (now.told(o, WEIGHT) > ruling.holds(now.told(o, YARD))) {
                bits |= 1 << o;
            }
        }
        return bits;
    }

    // ---- what first, two jibs, said, written down

    public int first(int orders, int i) {
        if (!isSet(orders) || Integer.bitCount(orders) > 7) {
            return NONE;
        }
        fillLasting();
        plan.weigh(now, orders);
        if (i == NONE) {
            return plan.leastCost();
        }
        return within(i, 0, Integer.bitCount(orders) - 1) ? plan.orderAt(now, orders, i) : NONE;
    }

    public int twoJibs(int orders, int order) {
        boolean asked = order == NONE || isOrder(order) && (orders >> order & 1) == 1;
        if (!isSet(orders) || !asked) {
            return NONE;
        }
        fillLasting();
        plan.placeAll(now, orders);
        return order == NONE ? plan.bestEnd : plan.bestBegins[order];
    }

    private void fillLasting() {
        for (int o = 0; o < now.orderCount; o++) {
            plan.lasting[o] = lasting(o);
        }
    }

    public int said(int r, boolean left) {
        if (r == NONE) {
            now.saidCount = 0;
            return 0;
        }
        if (!within(r, 0, 10) || now.saidCount >= SAID_MOST) {
            return NO;
        }
        now.saidForLeft[now.saidCount] = left ? r : 10 - r;
        now.saidCount++;
        return now.saidCount;
    }

    public long left(boolean low) {
        long isLeft = 1;
        long isRight = 1;
        for (int i = 0; i < now.saidCount; i++) {
            isLeft *= now.saidForLeft[i];
            isRight *= 10 - now.saidForLeft[i];
        }
        return inLowestTerms(isLeft, isLeft + isRight, low);
    }

    public int landed(int i, int what) {
        if (i == NONE) {
            return now.hook.written;
        }
        if (!within(i, 0, now.hook.written - 1) || !within(what, 0, 1)) {
            return NO;
        }
        return what == 0 ? now.writtenOrders[i] : now.writtenTenths[i];
    }

    public int hour(int n) {
        if (!within(n, 1, TENTH_MOST)) {
            return NONE;
        }
        int many = 0;
        for (int i = 0; i < now.hook.written; i++) {
            if (now.writtenTenths[i] > now.hook.tenth - n) {
                many++;
            }
        }
        return many;
    }

    public int mean(boolean low) {
        int many = now.hook.written;
        if (many < 2) {
            return NONE;
        }
        int span = now.writtenTenths[many - 1] - now.writtenTenths[0];
        return (int) inLowestTerms(span, many - 1, low);
    }

    // ---- the image

    public int image() {
        held.copy(now);
        return now.hook.tenth;
    }

    public int back() {
        now.copy(held);
        return now.hook.tenth;
    }

    public int about(int what) {
        switch (what) {
            case 0: return now.orderCount;
            case 1: return now.near;
            case 2: return now.hook.x;
            case 3: return now.textCount;
            case 4: return now.ruling;
            case 5: return now.stepCount;
            case 6: return now.saidCount;
            case 7: return now.hook.keptCount();
            case 8: return tapeLength;
            case 9: return now.barCount;
            default: return NO;
        }
    }

    // ---- what several calls ask

    private boolean isOrder(int order) {
        return within(order, 0, now.orderCount - 1);
    }

    private boolean isText(int text) {
        return within(text, 0, now.textCount - 1);
    }

    private boolean isSet(int orders) {
        return within(orders, 1, (1 << now.orderCount) - 1);
    }

    private Laws ruled() {
        Text rules = isText(now.ruling) ? texts[now.ruling] : lawless;
        laws.rules = rules;
        laws.hands = rules;
        return laws;
    }

    private Laws ruledWithHand(int text) {
        Laws handed = ruled();
        handed.hands = isText(text) ? texts[text] : lawless;
        return handed;
    }

    private static boolean within(int value, int least, int most) {
        return value >= least && value <= most;
    }

    private static int bounded(int value, int least, int most) {
        return Math.max(least, Math.min(most, value));
    }

    /** One of the two of upper by lower in lowest terms; 0 by 1, if both are 0. */
    private static long inLowestTerms(long upper, long lower, boolean low) {
        long a = upper;
        long b = lower;
        // Far more rounds than Euclid needs for numbers of this size.
        for (int i = 0; i < 200 && b != 0; i++) {
            long rest = a % b;
            a = b;
            b = rest;
        }
        if (a == 0) {
            return low ? 1 : 0;
        }
        return low ? lower / a : upper / a;
    }

    /**
     * What was at the beginnings of the latest TENTHS, by their numbers, each in one long.
     * Rows are found by the number of a TENTH, so that taking back is but setting TENTH back.
     */
    private static final class Kept {
        /** For looking ahead: what ago can ask, and the TENTHS of a search. */
        static final int SHORT = 32;
        /** For taking back: what is kept, and 30 STEPS that may be storms of 40 TENTHS. */
        static final int LONG = KEPT_MOST + STEPS_MOST * STORM_MOST;

        private static final int[] SHIFTS = {0, 15, 23, 28, 32, 43};
        private static final int[] MASKS = {32767, 255, 31, 15, 2047, 3};
        private static final int[] LEASTS = {-9999, -99, -9, 0, -600, -1};

        private final long[] rows;
        private final int size;

        Kept(int size) {
            this.size = Math.max(1, size);
            rows = new long[this.size];
        }

        void keep(Hook hook, int command) {
            if (hook.tenth < 0) {
                return;
            }
            rows[hook.tenth % size] = packed(0, hook.away()) | packed(1, hook.speed) | packed(2, hook.pace)
                    | packed(3, hook.wind) | packed(4, hook.goal - hook.place) | packed(KEPT_COMMAND, command);
        }

        private static long packed(int what, int value) {
            return (long) (value - LEASTS[what]) << SHIFTS[what];
        }

        int part(int tenth, int what) {
            if (tenth < 0 || what < 0 || what >= KEPT_PARTS) {
                return 0;
            }
            return (int) (rows[tenth % size] >> SHIFTS[what] & MASKS[what]) + LEASTS[what];
        }

        void copyLatest(Kept other, int tenth) {
            for (int t = Math.max(0, tenth - AGO_MOST); t < tenth; t++) {
                rows[t % size] = other.rows[t % other.size];
            }
        }

        void copyAll(Kept other) {
            System.arraycopy(other.rows, 0, rows, 0, Math.min(size, other.size));
        }
    }

    /** The TROLLEY, the LOAD and all that a STEP can change. */
    private static final class Hook {
        final Kept kept;
        int place;
        int pace;
        int load;
        int speed;
        int rope = 5;
        int weight;
        int wind;
        int goal;
        int tenth;
        int x = 59;
        int hooked = NONE;
        int landedBits;
        int written;
        /** Whether WIND neither falls nor is drawn. */
        boolean windStands;

        Hook(int keeps) {
            kept = new Kept(keeps);
        }

        int away() {
            return place - load;
        }

        int swung() {
            return Math.abs(away());
        }

        int keptCount() {
            return Math.min(KEPT_MOST, tenth);
        }

        boolean hasLanded(int order) {
            return (landedBits >> order & 1) == 1;
        }

        boolean hangsStill(int near) {
            return pace == 0 && Math.abs(place - goal) <= near && swung() <= near && Math.abs(speed) <= 1;
        }

        void tenthBy(int command, Laws laws) {
            // Laws ask what was before this TENTH, so it may be kept at once.
            kept.keep(this, command);
            int quickest = laws.paces(this);
            pace = bounded(pace + command, -quickest, quickest);
            roll();
            speed = bounded(speed + laws.swings(this), -99, 99);
            load = bounded(load + speed, -9999, 9999);
            blow();
            tenth++;
        }

        private void roll() {
            int to = place + pace;
            place = bounded(to, 0, PLACE_MOST);
            if (place != to) {
                pace = 0;
            }
        }

        private void blow() {
            if (windStands) {
                return;
            }
            wind = (tenth + 1) % 40 == 0 ? drawn() : Math.max(0, wind - 1);
        }

        /** A draw by 10. */
        int drawn() {
            int draw = x % 10;
            renewX();
            return draw;
        }

        void renewX() {
            x = (x * 263 + 157) % 30253;
        }

        /** A TENTH by the hand (run) or with COMMAND 0. */
        void tenthAhead(boolean run, Laws laws) {
            tenthBy(run ? laws.command(this) : 0, laws);
        }

        /** Runs by the hand: in how many TENTHS it first hangs still, 1 .. most. */
        int stillIn(int most, int near, Laws laws) {
            for (int k = 1; k <= most; k++) {
                tenthBy(laws.command(this), laws);
                if (hangsStill(near)) {
                    return k;
                }
            }
            return NONE;
        }

        /** Runs n TENTHS by the hand: the greatest size of AWAY at their ends. */
        int farthest(int n, Laws laws) {
            int far = 0;
            for (int k = 0; k < n; k++) {
                tenthBy(laws.command(this), laws);
                far = Math.max(far, swung());
            }
            return far;
        }

        void rest(int withRope, int withWeight, int toGoal) {
            place = 0;
            pace = 0;
            load = 0;
            speed = 0;
            tenth = 0;
            wind = 0;
            windStands = true;
            rope = withRope;
            weight = withWeight;
            goal = toGoal;
        }

        /** As another one is, for looking ahead. */
        void startAs(Hook other) {
            copyParts(other);
            kept.copyLatest(other.kept, other.tenth);
        }

        void copyWhole(Hook other) {
            copyParts(other);
            kept.copyAll(other.kept);
        }

        private void copyParts(Hook other) {
            place = other.place;
            pace = other.pace;
            load = other.load;
            speed = other.speed;
            rope = other.rope;
            weight = other.weight;
            wind = other.wind;
            goal = other.goal;
            tenth = other.tenth;
            x = other.x;
            hooked = other.hooked;
            landedBits = other.landedBits;
            written = other.written;
            windStands = other.windStands;
        }

        /** Writes all but what is kept into a row of STEP_PARTS. */
        void save(int[] rows, int row) {
            int at = row * STEP_PARTS;
            if (at < 0 || at + STEP_PARTS > rows.length) {
                return;
            }
            rows[at] = place;
            rows[at + 1] = pace;
            rows[at + 2] = load;
            rows[at + 3] = speed;
            rows[at + 4] = rope;
            rows[at + 5] = weight;
            rows[at + 6] = wind;
            rows[at + 7] = goal;
            rows[at + 8] = tenth;
            rows[at + 9] = x;
            rows[at + 10] = hooked;
            rows[at + 11] = landedBits;
            rows[at + 12] = written;
        }

        void restore(int[] rows, int row) {
            int at = row * STEP_PARTS;
            if (at < 0 || at + STEP_PARTS > rows.length) {
                return;
            }
            place = rows[at];
            pace = rows[at + 1];
            load = rows[at + 2];
            speed = rows[at + 3];
            rope = rows[at + 4];
            weight = rows[at + 5];
            wind = rows[at + 6];
            goal = rows[at + 7];
            tenth = rows[at + 8];
            x = rows[at + 9];
            hooked = rows[at + 10];
            landedBits = rows[at + 11];
            written = rows[at + 12];
        }
    }

    /** All that an image holds; of the texts just how many, as the first ones never change. */
    private static final class World {
        final Hook hook = new Hook(Kept.LONG);
        int near = 2;
        int textCount;
        int ruling = NONE;
        final int[] orders = new int[ORDERS_MOST * ORDER_PARTS];
        int orderCount;
        final int[] steps = new int[STEPS_MOST * STEP_PARTS];
        int stepNext;
        int stepCount;
        final int[] saidForLeft = new int[SAID_MOST];
        int saidCount;
        final int[] bars = new int[BARS_MOST * BAR_PARTS];
        int barCount;
        // An ORDER lands once, so the 20 that are written down are never exceeded.
        final int[] writtenOrders = new int[WRITTEN_MOST];
        final int[] writtenTenths = new int[WRITTEN_MOST];

        int told(int order, int what) {
            boolean there = within(order, 0, ORDERS_MOST - 1) && within(what, 0, ORDER_PARTS - 1);
            return there ? orders[order * ORDER_PARTS + what] : 0;
        }

        /** Keeps all as it is ahead of a STEP. */
        void keepStep() {
            hook.save(steps, stepNext);
            stepNext = (stepNext + 1) % STEPS_MOST;
            stepCount = Math.min(STEPS_MOST, stepCount + 1);
        }

        boolean takeBack() {
            if (stepCount == 0) {
                return false;
            }
            stepNext = (stepNext + STEPS_MOST - 1) % STEPS_MOST;
            stepCount--;
            hook.restore(steps, stepNext);
            return true;
        }

        void writeDown(int order) {
            if (hook.written < WRITTEN_MOST) {
                writtenOrders[hook.written] = order;
                writtenTenths[hook.written] = hook.tenth;
                hook.written++;
            }
            hook.landedBits |= 1 << order;
            hook.hooked = NONE;
            hook.weight = 0;
        }

        boolean bans(int place, int tenth) {
            for (int i = 0; i < barCount; i++) {
                int at = i * BAR_PARTS;
                if (within(place, bars[at], bars[at + 1]) && within(tenth, bars[at + 2], bars[at + 3])) {
                    return true;
                }
            }
            return false;
        }

        void copy(World other) {
            hook.copyWhole(other.hook);
            near = other.near;
            textCount = other.textCount;
            ruling = other.ruling;
            orderCount = other.orderCount;
            stepNext = other.stepNext;
            stepCount = other.stepCount;
            saidCount = other.saidCount;
            barCount = other.barCount;
            copyRow(other.orders, orders);
            copyRow(other.steps, steps);
            copyRow(other.saidForLeft, saidForLeft);
            copyRow(other.bars, bars);
            copyRow(other.writtenOrders, writtenOrders);
            copyRow(other.writtenTenths, writtenTenths);
        }

        private static void copyRow(int[] from, int[] to) {
            System.arraycopy(from, 0, to, 0, Math.min(from.length, to.length));
        }
    }

    /** The TOKENS of a tape. Words are numbered as they stand in WORDS. */
    private static final class Tokens {
        private static final String WORDS =
                "paces swings hand holds lasts order move run aim hook land away speed pace wind goal rope weight yard at due men in on out if then else end or and not size ago ";
        static final int ORDER = 5;
        static final int MOVE = 6;
        static final int RUN = 7;
        static final int AIM = 8;
        static final int HOOK = 9;
        static final int LAND = 10;
        static final int AWAY = 11;
        static final int ROPE = 16;
        static final int YARD_NAME = 18;
        static final int AT = 19;
        static final int DUE_WORD = 20;
        static final int MEN_WORD = 21;
        static final int IN = 22;
        static final int ON = 23;
        static final int OUT = 24;
        static final int IF = 25;
        static final int THEN = 26;
        static final int ELSE = 27;
        static final int END = 28;
        static final int OR = 29;
        static final int AND = 30;
        static final int NOT = 31;
        static final int SIZE = 32;
        static final int AGO = 33;
        // Asks in the order of their deeds in Laws.
        static final int LESS = 40;
        static final int LESS_OR_SAME = 41;
        static final int MORE = 42;
        static final int MORE_OR_SAME = 43;
        static final int SAME = 44;
        static final int UNLIKE = 45;
        static final int PLUS = 46;
        static final int MINUS = 47;
        static final int TIMES = 48;
        static final int BY = 49;
        static final int OPEN = 50;
        static final int CLOSE = 51;
        static final int SEMICOLON = 52;
        static final int NUMBER = 60;
        static final int STRANGE = 61;
        static final int NO_MORE = 62;

        private final int[] kinds = new int[TAPE_MOST];
        private final int[] places = new int[TAPE_MOST];
        private final int[] values = new int[TAPE_MOST];
        private int count;
        private int length;

        int kindAt(int i) {
            return i >= 0 && i < count ? kinds[i] : NO_MORE;
        }

        int placeAt(int i) {
            return i >= 0 && i < count ? places[i] : length;
        }

        int valueAt(int i) {
            return i >= 0 && i < count ? values[i] : 0;
        }

        void scan(int[] tape, int tapeLength) {
            length = Math.min(tapeLength, Math.min(tape.length, TAPE_MOST));
            count = 0;
            int at = 0;
            for (int round = 0; round < TAPE_MOST && at < length; round++) {
                at = scanOne(tape, at);
            }
        }

        /** Where the next TOKEN may begin. */
        private int scanOne(int[] tape, int at) {
            int sign = tape[at];
            if (sign == ' ' || sign == '\n') {
                return at + 1;
            }
            if (isLetter(sign)) {
                int to = at + 1;
                while (to < length && isLetter(tape[to])) {
                    to++;
                }
                return add(word(tape, at, to), at, to, 0);
            }
            if (isDigit(sign)) {
                int value = sign - '0';
                int to = at + 1;
                while (to < length && isDigit(tape[to])) {
                    // 10000 stands for all that is too great.
                    value = Math.min(10000, value * 10 + tape[to] - '0');
                    to++;
                }
                return add(NUMBER, at, to, value);
            }
            if (at + 1 < length && tape[at + 1] == '=' && (sign == '<' || sign == '>')) {
                return add(sign == '<' ? LESS_OR_SAME : MORE_OR_SAME, at, at + 2, 0);
            }
            return add(single(sign), at, at + 1, 0);
        }

        private int add(int kind, int at, int to, int value) {
            if (count < TAPE_MOST) {
                kinds[count] = kind;
                places[count] = at;
                values[count] = value;
                count++;
            }
            return to;
        }

        private static boolean isLetter(int sign) {
            return within(sign, 'a', 'z') || within(sign, 'A', 'Z');
        }

        private static boolean isDigit(int sign) {
            return within(sign, '0', '9');
        }

        private static int word(int[] tape, int from, int to) {
            int number = 0;
            int at = from;
            boolean alike = true;
            for (int i = 0; i < WORDS.length(); i++) {
                char letter = WORDS.charAt(i);
                if (letter == ' ') {
                    if (alike && at == to) {
                        return number;
                    }
                    number++;
                    at = from;
                    alike = true;
                } else if (alike && at < to && tape[at] == letter) {
                    at++;
                } else {
                    alike = false;
                }
            }
            return STRANGE;
        }

        private static int single(int sign) {
            switch (sign) {
                case '<': return LESS;
                case '>': return MORE;
                case '=': return SAME;
                case '#': return UNLIKE;
                case '+': return PLUS;
                case '-': return MINUS;
                case '*': return TIMES;
                case '/': return BY;
                case '(': return OPEN;
                case ')': return CLOSE;
                case ';': return SEMICOLON;
                default: return STRANGE;
            }
        }
    }

    /** A TEXT as it was read: its CLAUSES, and its laws as deeds upon a stack. */
    private static final class Text {
        private static final int ARGS = 5;

        final int[] deeds = new int[TAPE_MOST];
        private final int[] begins = new int[LAWS];
        private final int[] ends = new int[LAWS];
        private final int[] kinds = new int[CLAUSES_MOST];
        private final int[] args = new int[CLAUSES_MOST * ARGS];
        int length;
        int clauses;

        Text() {
            clear();
        }

        void clear() {
            length = 0;
            clauses = 0;
            for (int law = 0; law < LAWS; law++) {
                begins[law] = NONE;
                ends[law] = NONE;
            }
        }

        boolean has(int law) {
            return begin(law) != NONE;
        }

        int begin(int law) {
            return within(law, 0, LAWS - 1) ? begins[law] : NONE;
        }

        int stop(int law) {
            return within(law, 0, LAWS - 1) ? ends[law] : NONE;
        }

        int kind(int clause) {
            return within(clause, 0, clauses - 1) ? kinds[clause] : NONE;
        }

        int arg(int clause, int which) {
            return within(clause, 0, clauses - 1) && within(which, 0, ARGS - 1) ? args[clause * ARGS + which] : 0;
        }

        void setLaw(int law, int from) {
            if (within(law, 0, LAWS - 1)) {
                begins[law] = from;
                ends[law] = length;
            }
        }

        /** Sets what the CLAUSE tells that is being read. */
        void setArg(int which, int value) {
            if (clauses < CLAUSES_MOST && within(which, 0, ARGS - 1)) {
                args[clauses * ARGS + which] = value;
            }
        }

        void closeClause(int kind) {
            if (clauses < CLAUSES_MOST) {
                kinds[clauses] = kind;
                clauses++;
            }
        }

        void addDeed(int deed, int arg) {
            if (length < TAPE_MOST) {
                deeds[length] = arg << Laws.DEED_BITS | deed;
                length++;
            }
        }

        /** A leap that was added leads to what is added next. */
        void leapHere(int leap) {
            if (within(leap, 0, length - 1)) {
                deeds[leap] = length << Laws.DEED_BITS | deeds[leap] & Laws.DEED_MASK;
            }
        }
    }

    /** Reads a tape into a TEXT, up to the first FAULT. */
    private static final class Reader {
        // By law, the NAMES that can be asked in it (bits, from away on).
        private static final int[] NAMES = {127, 127, 127, 128, 224};
        private static final int ALL_NAMES = 255;
        private static final int AGO_NAMES = 31;
        private static final int FAILED = 63;

        private final Tokens tokens = new Tokens();
        private Text text;
        private int next;
        /** Of the TOKEN that is come to; FAILED behind a FAULT, so that nothing more is taken. */
        private int kind;
        private int open;
        private int law;
        int fault;
        int place;

        Reader(Text text) {
            this.text = text;
            place = NONE;
        }

        boolean read(int[] tape, int length, Text into) {
            text = into;
            text.clear();
            tokens.scan(tape, length);
            open = 0;
            fault = 0;
            place = NONE;
            next = 0;
            kind = tokens.kindAt(0);
            for (int i = 0; i <= CLAUSES_MOST && kind != Tokens.NO_MORE && kind != FAILED; i++) {
                clause();
            }
            return fault == 0;
        }

        private void fail(int what) {
            if (fault == 0) {
                fault = what;
                place = tokens.placeAt(next);
                kind = FAILED;
            }
        }

        private void step() {
            next++;
            kind = tokens.kindAt(next);
        }

        private void take(int due) {
            if (kind == due) {
                step();
            } else {
                fail(1);
            }
        }

        private int number(int least, int most) {
            int value = tokens.valueAt(next);
            if (kind != Tokens.NUMBER) {
                fail(1);
                return least;
            }
            if (value < least || value > most) {
                fail(2);
                return least;
            }
            step();
            return value;
        }

        private void clause() {
            int word = kind;
            if (word > Tokens.LAND && word != Tokens.ROPE) {
                fail(1);
            } else if (text.has(word)) {
                fail(4);
            } else if (text.clauses >= CLAUSES_MOST) {
                fail(6);
            } else {
                step();
                if (word < LAWS) {
                    law = word;
                    int from = text.length;
                    sum();
                    text.setLaw(word, from);
                } else {
                    deedParts(word);
                }
                take(Tokens.SEMICOLON);
                text.closeClause(word);
            }
        }

        private void deedParts(int word) {
            switch (word) {
                case Tokens.ORDER: orderParts(); break;
                case Tokens.MOVE: side(); break;
                case Tokens.RUN: text.setArg(0, number(1, RUN_MOST)); break;
                case Tokens.ROPE: text.setArg(0, number(1, ROPE_MOST)); break;
                case Tokens.AIM: text.setArg(0, number(0, PLACE_MOST)); break;
                case Tokens.HOOK: text.setArg(0, number(0, ORDERS_MOST - 1)); break;
                default: break;
            }
        }

        private void orderParts() {
            text.setArg(WEIGHT, number(1, 99));
            take(Tokens.AT);
            text.setArg(YARD, number(0, YARD_MOST));
            take(Tokens.DUE_WORD);
            text.setArg(DUE, number(0, 999));
            take(Tokens.MEN_WORD);
            text.setArg(MEN, number(0, 9));
            take(Tokens.ON);
            text.setArg(JIB, number(0, 1));
        }

        private void side() {
            if (kind < Tokens.IN || kind > Tokens.OUT) {
                fail(1);
                return;
            }
            text.setArg(0, kind - Tokens.ON);
            step();
        }

        private void sum() {
            product();
            for (int i = 0; i < TAPE_MOST && (kind == Tokens.PLUS || kind == Tokens.MINUS); i++) {
                int deed = kind == Tokens.PLUS ? Laws.ADD : Laws.TAKE;
                step();
                product();
                text.addDeed(deed, 0);
            }
        }

        private void product() {
            one();
            for (int i = 0; i < TAPE_MOST && (kind == Tokens.TIMES || kind == Tokens.BY); i++) {
                int deed = kind == Tokens.TIMES ? Laws.TIMES : Laws.CUT;
                step();
                one();
                text.addDeed(deed, 0);
            }
        }

        private void one() {
            switch (kind) {
                case Tokens.NUMBER:
                    text.addDeed(Laws.NUMBER, number(0, 9999));
                    break;
                case Tokens.OPEN:
                    if (opens()) {
                        sum();
                        take(Tokens.CLOSE);
                        open--;
                    }
                    break;
                case Tokens.MINUS: changedOne(Laws.NEGATE); break;
                case Tokens.SIZE: changedOne(Laws.SIZE); break;
                case Tokens.IF: choice(); break;
                case Tokens.AGO:
                    step();
                    int tenths = number(1, AGO_MOST);
                    name(Laws.AGO, tenths * 8, AGO_NAMES);
                    break;
                default: name(Laws.NAME, 0, ALL_NAMES);
            }
        }

        /** Goes behind a TOKEN that opens something, unless it would be open too deep. */
        private boolean opens() {
            if (open >= OPEN_MOST) {
                fail(3);
                return false;
            }
            open++;
            step();
            return true;
        }

        private void changedOne(int deed) {
            if (opens()) {
                one();
                text.addDeed(deed, 0);
                open--;
            }
        }

        private void name(int deed, int more, int askable) {
            int number = kind - Tokens.AWAY;
            if (number < 0 || kind > Tokens.YARD_NAME) {
                fail(1);
            } else if (law < 0 || law >= LAWS || (NAMES[law] & askable & 1 << number) == 0) {
                fail(5);
            } else {
                text.addDeed(deed, more + number);
                step();
            }
        }

        private void choice() {
            if (!opens()) {
                return;
            }
            either();
            take(Tokens.THEN);
            int unless = text.length;
            text.addDeed(Laws.LEAP_UNLESS, 0);
            sum();
            take(Tokens.ELSE);
            int leap = text.length;
            text.addDeed(Laws.LEAP, 0);
            text.leapHere(unless);
            sum();
            take(Tokens.END);
            text.leapHere(leap);
            open--;
        }

        private void either() {
            both();
            for (int i = 0; i < TAPE_MOST && kind == Tokens.OR; i++) {
                step();
                both();
                text.addDeed(Laws.OR, 0);
            }
        }

        private void both() {
            ask();
            for (int i = 0; i < TAPE_MOST && kind == Tokens.AND; i++) {
                step();
                ask();
                text.addDeed(Laws.AND, 0);
            }
        }

        private void ask() {
            if (kind == Tokens.NOT) {
                if (opens()) {
                    ask();
                    text.addDeed(Laws.NOT, 0);
                    open--;
                }
                return;
            }
            sum();
            int sign = kind;
            if (sign < Tokens.LESS || sign > Tokens.UNLIKE) {
                fail(1);
                return;
            }
            step();
            sum();
            text.addDeed(Laws.LESS + sign - Tokens.LESS, 0);
        }
    }

    /** The laws that rule, and how they are reckoned. */
    private static final class Laws {
        static final int DEED_BITS = 5;
        static final int DEED_MASK = 31;
        static final int LEAP = 0;
        static final int LEAP_UNLESS = 1;
        static final int NUMBER = 2;
        static final int NAME = 3;
        static final int AGO = 4;
        static final int NEGATE = 5;
        static final int SIZE = 6;
        static final int NOT = 7;
        static final int ADD = 8;
        static final int TAKE = 9;
        static final int TIMES = 10;
        static final int CUT = 11;
        static final int LESS = 12;
        static final int LESS_OR_SAME = 13;
        static final int MORE = 14;
        static final int MORE_OR_SAME = 15;
        static final int SAME = 16;
        static final int UNLIKE = 17;
        static final int OR = 18;
        static final int AND = 19;

        private static final int GREATEST = 1000000;
        // Five wait on each of the nine levels at most.
        private static final int STACK_MOST = 64;
        private static final int GOAL_NAME = 4;
        private static final int ROPE_NAME = 5;
        private static final int WEIGHT_NAME = 6;
        private static final int YARD_NAME = 7;

        Text rules;
        Text hands;
        private final int[] names = new int[8];
        private final int[] stack = new int[STACK_MOST];
        private Kept kept;
        private int tenth;
        private int eldest;

        Laws(Text lawless, Kept kept) {
            rules = lawless;
            hands = lawless;
            this.kept = kept;
        }

        int paces(Hook hook) {
            if (!rules.has(PACES)) {
                return 3;
            }
            look(hook);
            return bounded(reckon(rules, PACES), 0, 9);
        }

        int swings(Hook hook) {
            if (!rules.has(SWINGS)) {
                return hook.rope == 0 ? 0 : bounded(hook.away() / hook.rope, -99, 99);
            }
            look(hook);
            return bounded(reckon(rules, SWINGS), -99, 99);
        }

        /** The COMMAND of the hand as all is. */
        int command(Hook hook) {
            if (!hands.has(HAND)) {
                return Integer.compare(hook.goal, hook.place);
            }
            look(hook);
            return Integer.compare(reckon(hands, HAND), 0);
        }

        /** The COMMAND that the hand would have given in a TENTH that is kept. */
        int commandThen(Hook hook, int then) {
            lookBack(hook, then);
            return Integer.compare(hands.has(HAND) ? reckon(hands, HAND) : names[GOAL_NAME], 0);
        }

        int holds(int yard) {
            if (!rules.has(HOLDS)) {
                return 60 - yard;
            }
            names[YARD_NAME] = yard;
            return bounded(reckon(rules, HOLDS), 0, 99);
        }

        int lasts(int rope, int weight, int yard) {
            if (!rules.has(LASTS)) {
                return yard / 10 + 1;
            }
            names[ROPE_NAME] = rope;
            names[WEIGHT_NAME] = weight;
            names[YARD_NAME] = yard;
            return bounded(reckon(rules, LASTS), 1, 99);
        }

        private void look(Hook hook) {
            names[0] = hook.away();
            names[1] = hook.speed;
            names[2] = hook.pace;
            names[3] = hook.wind;
            names[GOAL_NAME] = hook.goal - hook.place;
            lookAround(hook, hook.tenth);
        }

        private void lookBack(Hook hook, int then) {
            for (int name = 0; name <= GOAL_NAME; name++) {
                names[name] = hook.kept.part(then, name);
            }
            lookAround(hook, then);
        }

        private void lookAround(Hook hook, int then) {
            names[ROPE_NAME] = hook.rope;
            names[WEIGHT_NAME] = hook.weight;
            kept = hook.kept;
            tenth = then;
            eldest = hook.tenth > KEPT_MOST ? hook.tenth - KEPT_MOST : 0;
        }

        private int reckon(Text text, int law) {
            int[] deeds = text.deeds;
            int at = text.begin(law);
            int stop = Math.min(text.stop(law), deeds.length);
            int top = 0;
            // Leaps lead ahead only, so no deed is done twice.
            for (int i = 0; i < TAPE_MOST && at >= 0 && at < stop; i++) {
                int deed = deeds[at] & DEED_MASK;
                int arg = deeds[at] >> DEED_BITS;
                at++;
                if (deed >= ADD) {
                    if (top >= 2) {
                        top--;
                        stack[top - 1] = joined(deed, stack[top - 1], stack[top]);
                    }
                } else if (deed >= NEGATE) {
                    if (top >= 1) {
                        stack[top - 1] = changed(deed, stack[top - 1]);
                    }
                } else if (deed == LEAP) {
                    at = arg;
                } else if (deed == LEAP_UNLESS) {
                    if (top >= 1) {
                        top--;
                        at = stack[top] == 0 ? arg : at;
                    }
                } else if (top < STACK_MOST) {
                    stack[top] = fetched(deed, arg);
                    top++;
                }
            }
            return top >= 1 ? stack[top - 1] : 0;
        }

        private int fetched(int deed, int arg) {
            if (deed == NUMBER) {
                return arg;
            }
            int name = arg & 7;
            if (deed == NAME) {
                return names[name];
            }
            int then = tenth - (arg >> 3);
            return then >= eldest ? kept.part(then, name) : 0;
        }

        private static int changed(int deed, int value) {
            if (deed == NOT) {
                return value == 0 ? 1 : 0;
            }
            return deed == NEGATE ? -value : Math.abs(value);
        }

        private static int joined(int deed, int left, int right) {
            switch (deed) {
                case ADD: return cut((long) left + right);
                case TAKE: return cut((long) left - right);
                case TIMES: return cut((long) left * right);
                case CUT: return right == 0 ? 0 : left / right;
                case LESS: return left < right ? 1 : 0;
                case LESS_OR_SAME: return left <= right ? 1 : 0;
                case MORE: return left > right ? 1 : 0;
                case MORE_OR_SAME: return left >= right ? 1 : 0;
                case SAME: return left == right ? 1 : 0;
                case UNLIKE: return left != right ? 1 : 0;
                case OR: return left | right;
                case AND: return left & right;
                default: return 0;
            }
        }

        private static int cut(long value) {
            if (value > GREATEST) {
                return GREATEST;
            }
            return value < -GREATEST ? -GREATEST : (int) value;
        }
    }

    /** SOONEST and FEWEST: COMMANDS tried one behind the other, the lowest first. */
    private static final class Search {
        private final int[] saved = new int[(SEARCH_MOST + 1) * STEP_PARTS];
        private final int[] tried = new int[SEARCH_MOST];
        private final int[] best = new int[SEARCH_MOST];
        private int near;
        private boolean sparing;
        int length;
        int given;

        void begin(Hook hook, Laws laws, int isNear, boolean isSparing) {
            near = isNear;
            sparing = isSparing;
            length = SEARCH_MOST + 1;
            given = SEARCH_MOST + 1;
            search(hook, laws, 0, 0);
        }

        boolean found() {
            return length <= SEARCH_MOST;
        }

        int commandAt(int i) {
            return found() && within(i, 0, length - 1) ? best[i] : NO;
        }

        private void search(Hook hook, Laws laws, int depth, int gave) {
            if (!better(depth, gave)) {
                return;
            }
            if (hook.hangsStill(near)) {
                take(depth, gave);
                return;
            }
            if (depth >= SEARCH_MOST || outOfReach(hook, SEARCH_MOST - depth)) {
                return;
            }
            hook.save(saved, depth);
            for (int command = -1; command <= 1; command++) {
                tried[depth] = command;
                hook.tenthBy(command, laws);
                search(hook, laws, depth + 1, gave + Math.abs(command));
                hook.restore(saved, depth);
            }
        }

        private boolean better(int depth, int gave) {
            if (sparing && gave != given) {
                return gave < given;
            }
            return depth < length;
        }

        /** No TENTH brings the TROLLEY on by more than 9. */
        private boolean outOfReach(Hook hook, int tenths) {
            return Math.abs(hook.place - hook.goal) > near + 9 * tenths;
        }

        private void take(int depth, int gave) {
            length = depth;
            given = gave;
            System.arraycopy(tried, 0, best, 0, SEARCH_MOST);
        }
    }

    /** WHAT FIRST and TWO JIBS, over ORDERS whose lasting is filled in ahead. */
    private static final class Plan {
        private static final int LATE = 1000000000;

        final int[] lasting = new int[ORDERS_MOST];
        final int[] bestBegins = new int[ORDERS_MOST];
        int bestEnd;
        // By the set of ORDERS that are done: the least that the others of the set cost, or LATE.
        private final int[] rest = new int[1 << ORDERS_MOST];
        private final int[] begins = new int[ORDERS_MOST];

        void weigh(World world, int set) {
            // Those with more done come first: a set is greater than each of its parts.
            for (int done = Math.min(set, rest.length - 1); done >= 0; done--) {
                if ((done & ~set) == 0) {
                    rest[done] = done == set ? 0 : cheapest(world, set, done);
                }
            }
        }

        private int cheapest(World world, int set, int done) {
            int least = LATE;
            for (int o = 0; o < ORDERS_MOST; o++) {
                if ((set & ~done & 1 << o) != 0) {
                    least = Math.min(least, cost(world, done, o));
                }
            }
            return least;
        }

        /** Of an ORDER and all behind it, if it is next behind those that are done. */
        private int cost(World world, int done, int order) {
            int end = lasting[order];
            for (int o = 0; o < ORDERS_MOST; o++) {
                if ((done >> o & 1) == 1) {
                    end += lasting[o];
                }
            }
            int behind = rest[done | 1 << order];
            if (behind == LATE || end > world.told(order, DUE)) {
                return LATE;
            }
            return world.told(order, MEN) * end + behind;
        }

        int leastCost() {
            return rest[0] == LATE ? NONE : rest[0];
        }

        /** The i-th ORDER of those that cost least together; the lowest of like ones. */
        int orderAt(World world, int set, int i) {
            int done = 0;
            int order = NONE;
            for (int k = 0; k <= i && rest[done] != LATE; k++) {
                order = lowest(world, set, done);
                if (order == NONE) {
                    return NONE;
                }
                done |= 1 << order;
            }
            return order;
        }

        private int lowest(World world, int set, int done) {
            for (int o = 0; o < ORDERS_MOST; o++) {
                if ((set & ~done & 1 << o) != 0 && cost(world, done, o) == rest[done]) {
                    return o;
                }
            }
            return NONE;
        }

        void placeAll(World world, int set) {
            bestEnd = LATE;
            place(world, set, 0, 0, 0);
        }

        /** Tries each ORDER that can be next behind those that are done: that many deep, 8 at most. */
        private void place(World world, int set, int done, int end, int depth) {
            if (done == set) {
                if (end < bestEnd) {
                    bestEnd = end;
                    System.arraycopy(begins, 0, bestBegins, 0, ORDERS_MOST);
                }
                return;
            }
            if (depth >= ORDERS_MOST) {
                return;
            }
            int jibs = 0;
            for (int o = 0; o < ORDERS_MOST; o++) {
                int jib = 1 << world.told(o, JIB);
                if ((set & ~done & 1 << o) != 0 && (jibs & jib) == 0) {
                    jibs |= jib;
                    begins[o] = earliest(world, done, o);
                    place(world, set, done | 1 << o, Math.max(end, begins[o] + lasting[o]), depth + 1);
                }
            }
        }

        private int earliest(World world, int done, int order) {
            int minute = 0;
            for (int o = 0; o < ORDERS_MOST; o++) {
                if ((done >> o & 1) == 1 && bindsTo(world, o, order)) {
                    minute = Math.max(minute, begins[o] + lasting[o]);
                }
            }
            return minute;
        }

        /** Whether one ORDER can't be done at once with the other one. */
        private static boolean bindsTo(World world, int one, int other) {
            return world.told(one, JIB) == world.told(other, JIB)
                    || Math.abs(world.told(one, YARD) - world.told(other, YARD)) < 10;
        }
    }
}
