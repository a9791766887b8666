/** "==== IV." and "==== V.", promises 16, 37 to 46: each told range at its last value and just beyond it. */
public final class PlanEdgesTest {
    public static void main(String[] args) {
        firstSets();
        firstAsked();
        firstDue();
        firstGreatest();
        firstOfLikeOnes();
        twoJibsSets();
        twoJibsYards();
        twoJibsByNumber();
        twoJibsOfLikeOnes();
        saidRange();
        saidOdds();
        landedAsked();
        hour();
        hourAtTheEnd();
        mean();
        stormRange();
        stormDraws();
        imageOfNew();
        imageHoldsNot();
        imageHolds();
        imageOfSteps();
        imageOfTexts();
        backAgain();
        about();
        Checks.close();
    }

    private static HookSwings ruled(String text) {
        HookSwings x = new HookSwings();
        Checks.is("text '" + text + "'", Checks.text(x, text), 0);
        x.by(0);
        return x;
    }

    private static void firstSets() {
        HookSwings x = new HookSwings();
        for (int o = 0; o < 8; o++) {
            Checks.is("no such ORDER " + o, x.first(1 << o, -1), -1);
            Checks.is("that and others", x.first((2 << o) - 1, -1), -1);
            x.order(1, 0, 999, 1, 0);
            Checks.is("ORDER " + o, x.first(1 << o, -1), 1);
            Checks.is("ORDER " + o + " first", x.first(1 << o, 0), o);
            int all = (2 << o) - 1;
            boolean can = o < 7;
            Checks.is("all " + (o + 1), x.first(all, -1), can ? (o + 1) * (o + 2) / 2 : -1);
            Checks.is("the last of " + (o + 1), x.first(all, o), can ? o : -1);
            Checks.is("none behind it", x.first(all, o + 1), -1);
        }
        for (int without = 0; without < 8; without++) {
            Checks.is("7 of 8", x.first(255 & ~(1 << without), -1), 28);
        }
        int[] wrong = {0, -1, 255, 256, 257, Integer.MIN_VALUE, Integer.MIN_VALUE + 1, Integer.MAX_VALUE};
        for (int set : wrong) {
            Checks.is("set " + set, x.first(set, -1), -1);
            Checks.is("set " + set + ", 0", x.first(set, 0), -1);
        }
    }

    private static void firstAsked() {
        HookSwings x = new HookSwings();
        x.order(1, 0, 999, 3, 0);
        x.order(1, 0, 999, 4, 0);
        Checks.is("MEN times MINUTES", x.first(3, -1), 4 + 6);
        Checks.is("0", x.first(3, 0), 1);
        Checks.is("1", x.first(3, 1), 0);
        int[] wrong = {-2, 2, 7, 8, Integer.MIN_VALUE, Integer.MAX_VALUE};
        for (int i : wrong) {
            Checks.is("i " + i, x.first(3, i), -1);
        }
    }

    private static void firstDue() {
        HookSwings x = ruled("lasts weight;");
        x.order(10, 0, 10, 1, 0);
        x.order(10, 0, 9, 1, 0);
        x.order(5, 0, 15, 0, 0);
        x.order(5, 0, 14, 0, 0);
        Checks.is("it ends when it is due", x.first(1, -1), 10);
        Checks.is("it ends one behind", x.first(2, -1), -1);
        Checks.is("none: the first", x.first(2, 0), -1);
        Checks.is("both end when they are due", x.first(5, -1), 10);
        Checks.is("in that order alone", x.first(5, 0), 0);
        Checks.is("the second", x.first(5, 1), 2);
        Checks.is("one is late either way", x.first(9, -1), -1);
        Checks.is("with one that is late none", x.first(7, -1), -1);
        HookSwings y = new HookSwings();
        y.order(1, 0, 0, 0, 0);
        Checks.is("due at 0", y.first(1, -1), -1);
        y.order(1, 0, 1, 0, 0);
        Checks.is("due at 1", y.first(2, -1), 0);
    }

    private static void firstGreatest() {
        HookSwings x = ruled("lasts 99;");
        for (int o = 0; o < 7; o++) {
            x.order(1, 0, o == 6 ? 693 : 999, 9, 0);
        }
        Checks.is("as dear as can be", x.first(127, -1), 9 * 99 * 28);
        for (int o = 0; o < 7; o++) {
            Checks.is("by number", x.first(127, o), o);
        }
        HookSwings y = ruled("lasts 99;");
        for (int o = 0; o < 7; o++) {
            y.order(1, 0, 692, 9, 0);
        }
        Checks.is("693 is behind 692", y.first(127, -1), -1);
    }

    private static void firstOfLikeOnes() {
        HookSwings x = new HookSwings();
        for (int o = 0; o < 4; o++) {
            x.order(1, 0, 999, 0, 0);
        }
        for (int i = 0; i < 4; i++) {
            Checks.is("all are alike", x.first(15, i), i);
        }
        Checks.is("nobody waits", x.first(15, -1), 0);
        HookSwings y = new HookSwings();
        y.order(1, 0, 999, 0, 0);
        y.order(1, 0, 2, 0, 0);
        y.order(1, 0, 1, 0, 0);
        int[] due = {2, 1, 0};
        for (int i = 0; i < 3; i++) {
            Checks.is("the one order that can be", y.first(7, i), due[i]);
        }
        HookSwings z = new HookSwings();
        z.order(1, 10, 999, 2, 0);
        z.order(1, 0, 999, 1, 0);
        Checks.is("2 by 2 and 1 by 1: as dear both ways", z.first(3, -1), 2 * 2 + 3);
        Checks.is("the lowest first", z.first(3, 0), 0);
    }

    private static void twoJibsSets() {
        HookSwings x = new HookSwings();
        for (int o = 0; o < 8; o++) {
            Checks.is("no such ORDER " + o, x.twoJibs(1 << o, -1), -1);
            Checks.is("that and others", x.twoJibs((2 << o) - 1, -1), -1);
            x.order(1, o % 2 * 20, 0, 0, o % 2);
            Checks.is("ORDER " + o, x.twoJibs(1 << o, -1), o % 2 == 0 ? 1 : 3);
            Checks.is("it begins", x.twoJibs(1 << o, o), 0);
            int all = (2 << o) - 1;
            Checks.is("all " + (o + 1), x.twoJibs(all, -1), Math.max((o + 2) / 2, (o + 1) / 2 * 3));
            Checks.is("the last begins", x.twoJibs(all, o), o % 2 == 0 ? o / 2 : o / 2 * 3);
            Checks.is("none such", x.twoJibs(all, o + 1), -1);
        }
        int[] wrong = {0, -1, 256, 257, Integer.MIN_VALUE, Integer.MIN_VALUE + 1, Integer.MAX_VALUE};
        for (int set : wrong) {
            Checks.is("set " + set, x.twoJibs(set, -1), -1);
            Checks.is("set " + set + ", 0", x.twoJibs(set, 0), -1);
        }
        int[] orders = {-2, 8, 32, Integer.MIN_VALUE, Integer.MAX_VALUE};
        for (int order : orders) {
            Checks.is("ORDER " + order, x.twoJibs(255, order), -1);
        }
        Checks.is("not of these", x.twoJibs(254, 0), -1);
        Checks.is("of these", x.twoJibs(254, 1), 0);
    }

    private static void twoJibsYards() {
        int[][] due = {{0, 9, 2}, {0, 10, 2}, {9, 0, 2}, {10, 0, 2}, {30, 39, 8}, {30, 40, 5}, {39, 30, 8}, {51, 60, 13}, {50, 60, 7},
            {7, 7, 2}};
        for (int[] d : due) {
            HookSwings x = new HookSwings();
            x.order(1, d[0], 0, 0, 0);
            x.order(1, d[1], 0, 0, 1);
            Checks.is("YARDS " + d[0] + " and " + d[1], x.twoJibs(3, -1), d[2]);
            HookSwings y = new HookSwings();
            y.order(1, d[0], 0, 0, 0);
            y.order(1, d[1], 0, 0, 0);
            Checks.is("of one JIB", y.twoJibs(3, -1), d[0] / 10 + d[1] / 10 + 2);
            Checks.is("the second begins", y.twoJibs(3, 1), d[0] / 10 + 1);
        }
        HookSwings apart = new HookSwings();
        apart.order(1, 0, 0, 0, 0);
        apart.order(1, 9, 0, 0, 1);
        apart.order(1, 10, 0, 0, 1);
        Checks.is("9 apart: one behind the other", apart.twoJibs(3, 1), 1);
        Checks.is("10 apart: at once", apart.twoJibs(5, 2), 0);
    }

    private static void twoJibsByNumber() {
        HookSwings x = ruled("lasts weight;");
        x.order(5, 0, 0, 0, 0);
        x.order(1, 30, 0, 0, 0);
        x.order(9, 30, 0, 0, 1);
        Checks.is("1 comes behind 0, though it could be done ahead", x.twoJibs(7, -1), 10);
        Checks.is("0", x.twoJibs(7, 0), 0);
        Checks.is("1", x.twoJibs(7, 1), 9);
        Checks.is("2", x.twoJibs(7, 2), 0);
        HookSwings y = ruled("lasts 99;");
        for (int o = 0; o < 8; o++) {
            y.order(1, 0, 0, 0, 1);
        }
        Checks.is("as long as can be", y.twoJibs(255, -1), 792);
        Checks.is("the last of it", y.twoJibs(255, 7), 693);
    }

    private static void twoJibsOfLikeOnes() {
        HookSwings x = new HookSwings();
        x.order(1, 0, 0, 0, 1);
        x.order(1, 0, 0, 0, 0);
        Checks.is("of like ones the lowest first", x.twoJibs(3, 0), 0);
        Checks.is("then the other", x.twoJibs(3, 1), 1);
        HookSwings y = ruled("lasts weight;");
        y.order(4, 0, 0, 0, 0);
        y.order(2, 0, 0, 0, 1);
        y.order(7, 40, 0, 0, 1);
        Checks.is("soonest", y.twoJibs(7, -1), 9);
        Checks.is("so 1 is ahead of 0", y.twoJibs(7, 1), 0);
        Checks.is("0 behind it", y.twoJibs(7, 0), 2);
    }

    private static void odds(String what, HookSwings x, long upper, long lower) {
        Checks.is(what + ": upper", x.left(false), upper);
        Checks.is(what + ": lower", x.left(true), lower);
    }

    private static void saidRange() {
        HookSwings x = new HookSwings();
        Checks.is("-2", x.said(-2, true), -2);
        Checks.is("11", x.said(11, true), -2);
        Checks.is("far off", x.said(Integer.MAX_VALUE, false), -2);
        Checks.is("far below", x.said(Integer.MIN_VALUE, false), -2);
        Checks.is("none", x.about(6), 0);
        odds("nobody", x, 1, 2);
        Checks.is("0", x.said(0, true), 1);
        Checks.is("10", x.said(10, false), 2);
        for (int i = 3; i <= 8; i++) {
            Checks.is("how many", x.said(5, true), i);
        }
        Checks.is("there are 8", x.said(5, true), -2);
        Checks.is("8 stay", x.about(6), 8);
        Checks.is("none any more", x.said(-1, false), 0);
        Checks.is("none", x.about(6), 0);
        Checks.is("none again", x.said(-1, true), 0);
        odds("nobody again", x, 1, 2);
    }

    private static void saidOdds() {
        HookSwings x = new HookSwings();
        x.said(0, true);
        odds("never right, left", x, 0, 1);
        x.said(0, false);
        odds("both are 0", x, 0, 1);
        x.said(-1, true);
        x.said(0, false);
        odds("never right, right", x, 1, 1);
        x.said(-1, true);
        x.said(10, true);
        odds("always right, left", x, 1, 1);
        x.said(10, false);
        odds("both are 0 again", x, 0, 1);
        x.said(-1, true);
        x.said(5, true);
        odds("5", x, 1, 2);
        x.said(-1, true);
        for (int i = 0; i < 8; i++) {
            x.said(10, true);
        }
        odds("10 eight times", x, 1, 1);
        x.said(-1, true);
        for (int i = 0; i < 8; i++) {
            x.said(1, true);
        }
        odds("1 eight times", x, 1, 43046722);
        x.said(-1, true);
        for (int i = 0; i < 8; i++) {
            x.said(7, i % 2 == 0);
        }
        odds("as many each", x, 1, 2);
        x.said(-1, true);
        x.said(6, true);
        x.said(4, false);
        odds("6 left, 4 right", x, 9, 13);
    }

    /** ORDERS landed in the told TENTHS, one behind the other. */
    private static HookSwings landings(int... tenths) {
        HookSwings x = new HookSwings();
        x.near(99);
        for (int o = 0; o < tenths.length; o++) {
            x.order(o + 1, 0, 0, 0, 0);
        }
        for (int o = 0; o < tenths.length; o++) {
            for (int i = 0; i < 170 && x.jib(9) < tenths[o]; i++) {
                x.run(Math.min(60, tenths[o] - x.jib(9)));
            }
            x.hook(o);
            Checks.is("LANDED", x.land(), o);
        }
        return x;
    }

    private static void landedAsked() {
        HookSwings x = new HookSwings();
        Checks.is("none", x.landed(-1, 0), 0);
        Checks.is("none, 1", x.landed(-1, 1), 0);
        Checks.is("no first", x.landed(0, 0), -2);
        HookSwings y = landings(0, 7);
        Checks.is("two", y.landed(-1, 0), 2);
        int[][] due = {{0, 0}, {1, 7}};
        for (int i = 0; i < 2; i++) {
            Checks.is("ORDER", y.landed(i, 0), due[i][0]);
            Checks.is("TENTH", y.landed(i, 1), due[i][1]);
            Checks.is("what -1", y.landed(i, -1), -2);
            Checks.is("what 2", y.landed(i, 2), -2);
        }
        int[] wrong = {-2, 2, 8, 20, Integer.MIN_VALUE, Integer.MAX_VALUE};
        for (int i : wrong) {
            Checks.is("i " + i, y.landed(i, 0), -2);
        }
    }

    private static void hour() {
        HookSwings x = landings(0, 5, 5, 10);
        int[][] due = {{1, 1}, {5, 1}, {6, 3}, {10, 3}, {11, 4}, {9999, 4}};
        for (int[] d : due) {
            Checks.is("in the latest " + d[0], x.hour(d[0]), d[1]);
        }
        int[] wrong = {0, -1, 10000, Integer.MIN_VALUE, Integer.MAX_VALUE};
        for (int n : wrong) {
            Checks.is("n " + n, x.hour(n), -1);
        }
        x.run(1);
        Checks.is("one TENTH later", x.hour(1), 0);
        Checks.is("in 2", x.hour(2), 1);
        Checks.is("nothing LANDED", new HookSwings().hour(9999), 0);
    }

    private static void hourAtTheEnd() {
        HookSwings x = landings(0, 1, 9999);
        Checks.is("9999", x.jib(9), 9999);
        Checks.is("behind TENTH 0", x.hour(9999), 2);
        Checks.is("behind TENTH 1", x.hour(9998), 1);
        Checks.is("9999 by 2: upper", x.mean(false), 9999);
        Checks.is("9999 by 2: lower", x.mean(true), 2);
    }

    private static void mean() {
        int[][] tenths = {{}, {5}, {5, 5}, {5, 6}, {0, 1, 4}, {0, 2, 4}, {3, 3, 3, 3}, {0, 0, 0, 7}, {1, 2, 3, 5, 8, 13, 21, 36}};
        int[][] due = {{-1, -1}, {-1, -1}, {0, 1}, {1, 1}, {2, 1}, {2, 1}, {0, 1}, {7, 3}, {5, 1}};
        for (int i = 0; i < tenths.length; i++) {
            HookSwings x = landings(tenths[i]);
            Checks.is("upper of " + i, x.mean(false), due[i][0]);
            Checks.is("lower of " + i, x.mean(true), due[i][1]);
        }
        HookSwings y = landings(0, 4);
        y.undo();
        Checks.is("taken back: fewer than two", y.mean(false), -1);
    }

    private static void stormRange() {
        int[] seeds = {-1, 10000, Integer.MIN_VALUE, Integer.MAX_VALUE};
        int[] spans = {0, -1, 41, Integer.MIN_VALUE, Integer.MAX_VALUE};
        HookSwings x = new HookSwings();
        String seen = Checks.seen(x);
        for (int seed : seeds) {
            Checks.is("SEED " + seed, x.storm(seed, 1), -1);
        }
        for (int n : spans) {
            Checks.is("n " + n, x.storm(0, n), -1);
        }
        Checks.same("nothing is done", Checks.seen(x), seen);
        Checks.is("0 and 1", x.storm(0, 1), 1);
        Checks.is("1 TENTH", x.jib(9), 1);
        Checks.is("0 and 40", x.storm(0, 40) >= 0, true);
        Checks.is("41 TENTHS", x.jib(9), 41);
        Checks.is("9999 and 1", x.storm(9999, 1) >= 0, true);
        Checks.is("9999 and 40", x.storm(9999, 40) >= 0, true);
        Checks.is("4 STEPS", x.about(5), 4);
    }

    private static void stormDraws() {
        for (int seed : new int[] {0, 1, 4711, 9999}) {
            HookSwings x = new HookSwings();
            x.run(20);
            int place = x.storm(seed, 40);
            Checks.is("PLACE", place, x.jib(0));
            long value = seed * 3L + 59;
            for (int k = 40; k >= 1; k--) {
                Checks.is("WIND " + k + " ago", x.ago(k, 3), value % 10);
                value = (value * 263 + 157) % 30253;
                Checks.is("COMMAND " + k + " ago", x.ago(k, 5), value % 3 - 1);
                if (k == 21) {
                    // The 20th TENTH of it ends at 40: a gust of its own, a draw more.
                    value = (value * 263 + 157) % 30253;
                }
                value = (value * 263 + 157) % 30253;
            }
            Checks.is("X", x.about(2), value);
        }
    }

    private static void imageOfNew() {
        HookSwings x = new HookSwings();
        String fresh = Checks.seen(x);
        Checks.is("BACK at once", x.back(), 0);
        Checks.same("nothing changes", Checks.seen(x), fresh);
        x.order(1, 1, 1, 1, 1);
        x.near(50);
        Checks.text(x, "hand 1;");
        x.by(0);
        x.hook(0);
        x.run(60);
        x.said(3, true);
        x.bar(0, 600, 0, 9999);
        Checks.is("BACK to what was new", x.back(), 0);
        Checks.same("all is so again", Checks.seen(x), fresh);
        Checks.is("no BARS", x.barred(1, false), -1);
        Checks.is("nothing to take back", x.undo(), -1);
        Checks.is("no TEXT 0", x.by(0), false);
        Checks.is("no ORDER 0", x.hook(0), false);
    }

    private static void imageHoldsNot() {
        HookSwings x = new HookSwings();
        x.feed(0x6c616e64, 0x3b202020, 0x20202020, 0x20202020, 0x20202020);
        x.image();
        x.end(4);
        x.back();
        Checks.is("the tape isn't held", x.about(8), 4);
        Checks.is("its FAULT", x.text(), -1);
        x.back();
        Checks.is("BACK leaves the FAULT", x.fault(0), 1);
        Checks.is("and its place", x.fault(1), 4);
        Checks.is("the tape is empty still", x.about(8), 0);
        x.image();
        Checks.text(x, "");
        Checks.is("no FAULT", x.fault(0), 0);
        x.back();
        Checks.is("none behind BACK, either", x.fault(0), 0);
        HookSwings y = new HookSwings();
        y.image();
        Checks.text(y, "run 0;");
        y.back();
        Checks.is("read since", y.fault(0), 2);
    }

    private static void imageHolds() {
        HookSwings x = new HookSwings();
        x.image();
        x.near(3);
        x.image();
        x.near(4);
        x.back();
        Checks.is("NEAR", x.about(1), 3);
        x.said(7, true);
        x.image();
        x.said(-1, true);
        x.said(1, true);
        x.back();
        odds("SAID", x, 7, 10);
        x.bar(0, 0, 0, 9999);
        x.image();
        x.bar(-1, 0, 0, 0);
        x.bar(5, 5, 0, 9999);
        x.back();
        Checks.is("BARS", x.barred(1, false), 1);
        x.order(8, 0, 9, 1, 0);
        x.image();
        x.order(9, 0, 9, 1, 0);
        x.hook(0);
        x.land();
        x.back();
        Checks.is("ORDERS", x.about(0), 1);
        Checks.is("not LANDED", x.ofOrder(0, 5), 0);
        Checks.is("nothing written down", x.landed(-1, 0), 0);
        Checks.is("another one", x.order(7, 0, 9, 1, 0), 1);
        Checks.is("its WEIGHT", x.ofOrder(1, 0), 7);
        x.back();
        x.hook(0);
        x.image();
        x.land();
        x.back();
        Checks.is("HOOKED", x.jib(11), 0);
        x.land();
        x.image();
        x.undo();
        x.back();
        Checks.is("written down", x.landed(0, 0), 0);
        x.storm(12, 12);
        int value = x.about(2);
        x.image();
        x.run(60);
        x.storm(5, 5);
        Checks.is("BACK", x.back(), 12);
        Checks.is("X", x.about(2), value);
        Checks.is("kept", x.about(7), 12);
    }

    private static void imageOfSteps() {
        HookSwings x = new HookSwings();
        for (int i = 1; i <= 40; i++) {
            x.aim(i);
        }
        Checks.is("30", x.about(5), 30);
        x.image();
        for (int i = 0; i < 30; i++) {
            x.undo();
        }
        for (int i = 0; i < 35; i++) {
            x.hoist(1 + i % 2);
        }
        x.back();
        Checks.is("30 again", x.about(5), 30);
        for (int i = 29; i >= 0; i--) {
            Checks.is("how many yet", x.undo(), i);
            Checks.is("GOAL", x.jib(8), i + 10);
        }
        Checks.is("none", x.undo(), -1);
        HookSwings y = new HookSwings();
        y.image();
        y.aim(9);
        y.back();
        Checks.is("BACK is no STEP and leaves none", y.undo(), -1);
        y.aim(9);
        y.image();
        Checks.is("an image is no STEP", y.about(5), 1);
        y.aim(8);
        y.back();
        Checks.is("the STEP ahead of it", y.undo(), 0);
        Checks.is("GOAL", y.jib(8), 0);
        Checks.is("the image stays when a STEP is taken back", y.back(), 0);
        Checks.is("GOAL of the image", y.jib(8), 9);
    }

    private static void imageOfTexts() {
        HookSwings x = new HookSwings();
        Checks.text(x, "hand 1;");
        Checks.text(x, "hand 0-1;");
        x.by(1);
        x.image();
        Checks.text(x, "aim 7;");
        Checks.text(x, "aim 8;");
        x.by(2);
        x.back();
        Checks.is("two TEXTS", x.about(3), 2);
        Checks.is("THE TEXT", x.about(4), 1);
        Checks.is("its hand", x.jib(12), -1);
        Checks.is("no TEXT 2", x.played(2), -2);
        Checks.is("another TEXT 2", Checks.text(x, "aim 9;"), 2);
        Checks.is("PLAYED", x.played(2), -1);
        Checks.is("GOAL", x.jib(8), 9);
        x.by(-1);
        x.image();
        x.by(0);
        x.back();
        Checks.is("no TEXT rules", x.about(4), -1);
        Checks.is("with a FAULT none comes", Checks.text(x, "hand 1;hand 2;"), -1);
        x.back();
        Checks.is("three TEXTS", x.about(3), 3);
        Checks.is("as they were", x.played(2), 0);
    }

    private static void backAgain() {
        HookSwings x = new HookSwings();
        x.run(7);
        Checks.is("image", x.image(), 7);
        for (int i = 0; i < 3; i++) {
            x.run(5);
            Checks.is("BACK", x.back(), 7);
            Checks.is("BACK again", x.back(), 7);
        }
        x.run(1);
        Checks.is("another image", x.image(), 8);
        x.run(60);
        Checks.is("BACK to that", x.back(), 8);
        HookSwings y = new HookSwings();
        for (int i = 0; i < 166; i++) {
            y.run(60);
        }
        y.run(39);
        Checks.is("the last TENTH", y.image(), 9999);
        y.undo();
        Checks.is("BACK to it", y.back(), 9999);
    }

    private static void about() {
        HookSwings x = new HookSwings();
        int[] wrong = {-1, 10, -2, Integer.MIN_VALUE, Integer.MAX_VALUE};
        for (int what : wrong) {
            Checks.is("about " + what, x.about(what), -2);
            Checks.is("jib " + (what < 10 ? what : 13), x.jib(what < 10 ? what : 13), -100000);
        }
        int[] due = {0, 2, 59, 0, -1, 0, 0, 0, 0, 0};
        for (int what = 0; what <= 9; what++) {
            Checks.is("about " + what, x.about(what), due[what]);
        }
    }
}
